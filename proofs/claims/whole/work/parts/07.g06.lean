abbrev WX12_in (G : Gx) (l : Launch) (σ0 : Shp) (X1 : Stt) (rv : Option SV) : Stt → Nat → List (Nat × SV) → List SV → Prop := Wm G l yX12_in cX12_in 3 (some .boolean) (fun _ => True) (rmx 0 0 σ0 X1.1) σ0 (Qmx G σ0 X1 rv)
def fX12_in  (x0 : Int32) (x1 : Int32) (x2 : Int32) : (Int32) :=
  if x0 < x1 then
    (0 : Int32)
  else
    if x2 < x0 then
      (0 : Int32)
    else
      (1 : Int32)
theorem zX12_in  (x0 : Int32) (x1 : Int32) (x2 : Int32) : fX12_in x0 x1 x2 = 0 ∨ fX12_in x0 x1 x2 = 1 := by
  unfold fX12_in
  repeat' (first | refine itz ?_ ?_ | exact Or.inl rfl | exact Or.inr rfl)
theorem kX12_in {G : Gx} {l : Launch} {σ : Shp} {I : Nat → Nat → Int32} {J : Nat → Nat → Int64} {D : Nat → Nat → UInt64} {R : Nat → Nat → Option Nat} {x0 : Int32} {x1 : Int32} {x2 : Int32} {r9 : Int32} (h : fX12_in x0 x1 x2 = r9) : Con G l yX12_in cX12_in 3 (some .boolean) 0 0 [vI x0, vI x1, vI x2] (σ, I, J, D, R) (σ, I, J, D, R) (some (vI r9)) := by
  unfold fX12_in at h
  refine Con.mk (by decide +kernel) rfl (Nat.le_of_ble_eq_true rfl) ?_
  show WX12_in G l σ (σ, I, J, D, R) (some (vI r9)) (σ, I, J, D, R) 0 _ []
  refine r_iload_n (pc := 0) dX12_in_0 rfl 0 rfl ?_
  refine r_iload_n (pc := 1) dX12_in_1 rfl 1 rfl ?_
  refine r_icmp_lt (pc := 2) (tgt := 14) dX12_in_2 rfl (fun c => ?_) (fun c => ?_)
  · have h := it h c
    refine r_iconst (pc := 14) dX12_in_14 kc_iconst_0 ?_
    subst h
    exact r_zret dX12_in_15 (Or.inl rfl)
  · have h := ie h c
    refine r_iload_n (pc := 5) dX12_in_5 rfl 0 rfl ?_
    refine r_iload_n (pc := 6) dX12_in_6 rfl 2 rfl ?_
    refine r_icmp_gt (pc := 7) (tgt := 14) dX12_in_7 rfl (fun c => ?_) (fun c => ?_)
    · have h := it h c
      refine r_iconst (pc := 14) dX12_in_14 kc_iconst_0 ?_
      subst h
      exact r_zret dX12_in_15 (Or.inl rfl)
    · have h := ie h c
      refine r_iconst (pc := 10) dX12_in_10 kc_iconst_1 ?_
      refine r_goto (pc := 11) (tgt := 15) dX12_in_11 rfl ?_
      subst h
      exact r_zret dX12_in_15 (Or.inr rfl)
abbrev WX12_isBin (G : Gx) (l : Launch) (σ0 : Shp) (X1 : Stt) (rv : Option SV) : Stt → Nat → List (Nat × SV) → List SV → Prop := Wm G l yX12_isBin cX12_isBin 1 (some .boolean) (fun _ => True) (rmx 0 0 σ0 X1.1) σ0 (Qmx G σ0 X1 rv)
def fX12_isBin  (x0 : Int32) : (Int32) :=
  if x0 < 0 then
    (0 : Int32)
  else
    if (15 : Int32) < x0 then
      (0 : Int32)
    else
      (1 : Int32)
theorem zX12_isBin  (x0 : Int32) : fX12_isBin x0 = 0 ∨ fX12_isBin x0 = 1 := by
  unfold fX12_isBin
  repeat' (first | refine itz ?_ ?_ | exact Or.inl rfl | exact Or.inr rfl)
theorem kX12_isBin {G : Gx} {l : Launch} {σ : Shp} {I : Nat → Nat → Int32} {J : Nat → Nat → Int64} {D : Nat → Nat → UInt64} {R : Nat → Nat → Option Nat} {x0 : Int32} {r9 : Int32} (h : fX12_isBin x0 = r9) : Con G l yX12_isBin cX12_isBin 1 (some .boolean) 0 0 [vI x0] (σ, I, J, D, R) (σ, I, J, D, R) (some (vI r9)) := by
  unfold fX12_isBin at h
  refine Con.mk (by decide +kernel) rfl (Nat.le_of_ble_eq_true rfl) ?_
  show WX12_isBin G l σ (σ, I, J, D, R) (some (vI r9)) (σ, I, J, D, R) 0 _ []
  refine r_iload_n (pc := 0) dX12_isBin_0 rfl 0 rfl ?_
  refine r_if_lt (pc := 1) (tgt := 14) dX12_isBin_1 rfl (fun c => ?_) (fun c => ?_)
  · have h := it h c
    refine r_iconst (pc := 14) dX12_isBin_14 kc_iconst_0 ?_
    subst h
    exact r_zret dX12_isBin_15 (Or.inl rfl)
  · have h := ie h c
    refine r_iload_n (pc := 4) dX12_isBin_4 rfl 0 rfl ?_
    refine r_bipush (pc := 5) dX12_isBin_5 kc_bipush_15 ?_
    refine r_icmp_gt (pc := 7) (tgt := 14) dX12_isBin_7 rfl (fun c => ?_) (fun c => ?_)
    · have h := it h c
      refine r_iconst (pc := 14) dX12_isBin_14 kc_iconst_0 ?_
      subst h
      exact r_zret dX12_isBin_15 (Or.inl rfl)
    · have h := ie h c
      refine r_iconst (pc := 10) dX12_isBin_10 kc_iconst_1 ?_
      refine r_goto (pc := 11) (tgt := 15) dX12_isBin_11 rfl ?_
      subst h
      exact r_zret dX12_isBin_15 (Or.inr rfl)
abbrev WX12_isFull (G : Gx) (l : Launch) (σ0 : Shp) (X1 : Stt) (rv : Option SV) : Stt → Nat → List (Nat × SV) → List SV → Prop := Wm G l yX12_isFull cX12_isFull 1 (some .boolean) (fun _ => True) (rmx 0 0 σ0 X1.1) σ0 (Qmx G σ0 X1 rv)
def fX12_isFull (σ : Shp) (I : Nat → Nat → Int32) (t : Nat)  : Option ((Int32)) :=
  if kdx σ t = 13 then
  if (3000 : Int32) ≤ (I t 1) then
    some (1 : Int32)
  else
    if (I t 0) < (4000 : Int32) then
      some (0 : Int32)
    else
      some (1 : Int32)
  else none
theorem kX12_isFull {G : Gx} {l : Launch} {σ : Shp} {I : Nat → Nat → Int32} {J : Nat → Nat → Int64} {D : Nat → Nat → UInt64} {R : Nat → Nat → Option Nat} {t : Nat}  {r9 : Int32} (h : fX12_isFull σ I t = some r9) : Con G l yX12_isFull cX12_isFull 1 (some .boolean) 0 0 [vR (some t)] (σ, I, J, D, R) (σ, I, J, D, R) (some (vI r9)) := by
  unfold fX12_isFull at h
  refine Con.mk (by decide +kernel) rfl (Nat.le_of_ble_eq_true rfl) ?_
  show WX12_isFull G l σ (σ, I, J, D, R) (some (vI r9)) (σ, I, J, D, R) 0 _ []
  refine r_aload_n (pc := 0) dX12_isFull_0 rfl 0 rfl ?_
  obtain ⟨g1, h⟩ := gd h
  refine r_getI (pc := 1) dX12_isFull_1 fgX12_299 rfl g1 ?_
  refine r_sipush (pc := 4) dX12_isFull_4 kc_sipush_3000 ?_
  refine r_icmp_ge (pc := 7) (tgt := 20) dX12_isFull_7 rfl (fun c => ?_) (fun c => ?_)
  · have h := it h c
    refine r_iconst (pc := 20) dX12_isFull_20 kc_iconst_1 ?_
    refine r_goto (pc := 21) (tgt := 25) dX12_isFull_21 rfl ?_
    cases h
    exact r_zret dX12_isFull_25 (Or.inr rfl)
  · have h := ie h c
    refine r_aload_n (pc := 10) dX12_isFull_10 rfl 0 rfl ?_
    refine r_getI (pc := 11) dX12_isFull_11 fgX12_302 rfl g1 ?_
    refine r_sipush (pc := 14) dX12_isFull_14 kc_sipush_4000 ?_
    refine r_icmp_lt (pc := 17) (tgt := 24) dX12_isFull_17 rfl (fun c => ?_) (fun c => ?_)
    · have h := it h c
      refine r_iconst (pc := 24) dX12_isFull_24 kc_iconst_0 ?_
      cases h
      exact r_zret dX12_isFull_25 (Or.inl rfl)
    · have h := ie h c
      refine r_iconst (pc := 20) dX12_isFull_20 kc_iconst_1 ?_
      refine r_goto (pc := 21) (tgt := 25) dX12_isFull_21 rfl ?_
      cases h
      exact r_zret dX12_isFull_25 (Or.inr rfl)
abbrev WX12_no (G : Gx) (l : Launch) (σ0 : Shp) (X1 : Stt) (rv : Option SV) : Stt → Nat → List (Nat × SV) → List SV → Prop := Wm G l yX12_no cX12_no 2 (some .int) (fun _ => True) (rmx 0 0 σ0 X1.1) σ0 (Qmx G σ0 X1 rv)
def fX12_no (σ : Shp) (I : Nat → Nat → Int32) (t : Nat) (x1 : Int32) : Option ((Nat → Nat → Int32) × (Int32)) :=
  if kdx σ t = 13 then
  let I2 := u2 I t 1 ((I t 1) + (1 : Int32))
  let I3 := u2 I2 t 2 x1
  some (I3, ((-10 : Int32) - x1))
  else none
theorem kX12_no {G : Gx} {l : Launch} {σ : Shp} {I : Nat → Nat → Int32} {J : Nat → Nat → Int64} {D : Nat → Nat → UInt64} {R : Nat → Nat → Option Nat} {t : Nat} {x1 : Int32} {I9 : Nat → Nat → Int32} {r9 : Int32} (h : fX12_no σ I t x1 = some (I9, r9)) : Con G l yX12_no cX12_no 2 (some .int) 0 0 [vR (some t), vI x1] (σ, I, J, D, R) (σ, I9, J, D, R) (some (vI r9)) := by
  unfold fX12_no at h
  refine Con.mk (by decide +kernel) rfl (Nat.le_of_ble_eq_true rfl) ?_
  show WX12_no G l σ (σ, I9, J, D, R) (some (vI r9)) (σ, I, J, D, R) 0 _ []
  refine r_aload_n (pc := 0) dX12_no_0 rfl 0 rfl ?_
  refine r_dup (pc := 1) dX12_no_1 rfl ?_
  obtain ⟨g1, h⟩ := gd h
  refine r_getI (pc := 2) dX12_no_2 fgX12_299 rfl g1 ?_
  refine r_iconst (pc := 5) dX12_no_5 kc_iconst_1 ?_
  refine r_iadd (pc := 6) dX12_no_6 ?_
  refine r_putI (pc := 7) dX12_no_7 fwX12_299 rfl g1 ?_
  refine r_aload_n (pc := 10) dX12_no_10 rfl 0 rfl ?_
  refine r_iload_n (pc := 11) dX12_no_11 rfl 1 rfl ?_
  refine r_putI (pc := 12) dX12_no_12 fwX12_305 rfl g1 ?_
  refine r_bipush (pc := 15) dX12_no_15 kc_bipush_m10 ?_
  refine r_iload_n (pc := 17) dX12_no_17 rfl 1 rfl ?_
  refine r_isub (pc := 18) dX12_no_18 ?_
  cases h
  exact r_iret dX12_no_19
abbrev WX12_noBits (G : Gx) (l : Launch) (σ0 : Shp) (X1 : Stt) (rv : Option SV) : Stt → Nat → List (Nat × SV) → List SV → Prop := Wm G l yX12_noBits cX12_noBits 3 (some .long) (fun _ => True) (rmx 1 21 σ0 X1.1) σ0 (Qmx G σ0 X1 rv)
def fX12_noBits (σ : Shp) (I : Nat → Nat → Int32) (t : Nat) (x1 : Int32) : Option ((Nat → Nat → Int32) × (Int64)) :=
  if kdx σ t = 13 then
  (fX12_no σ I t x1).bind fun (I2, r3) =>
  some (I2, (0 : Int64))
  else none
theorem kX12_noBits {G : Gx} {l : Launch} {σ : Shp} {I : Nat → Nat → Int32} {J : Nat → Nat → Int64} {D : Nat → Nat → UInt64} {R : Nat → Nat → Option Nat} {t : Nat} {x1 : Int32} {I9 : Nat → Nat → Int32} {r9 : Int64} (h : fX12_noBits σ I t x1 = some (I9, r9)) : Con G l yX12_noBits cX12_noBits 3 (some .long) 1 21 [vR (some t), vI x1] (σ, I, J, D, R) (σ, I9, J, D, R) (some (vL r9)) := by
  unfold fX12_noBits at h
  refine Con.mk (by decide +kernel) rfl (Nat.le_of_ble_eq_true rfl) ?_
  show WX12_noBits G l σ (σ, I9, J, D, R) (some (vL r9)) (σ, I, J, D, R) 0 _ []
  refine r_aload_n (pc := 0) dX12_noBits_0 rfl 0 rfl ?_
  refine r_iload_n (pc := 1) dX12_noBits_1 rfl 1 rfl ?_
  obtain ⟨g1, h⟩ := gd h
  obtain ⟨⟨I2, r3⟩, hc4, h⟩ := ob h
  refine r_callV1 (pc := 2) (av := [vI x1]) (S := []) dX12_noBits_2 (kX12_no hc4) g1 rfl mkX12_308 mwX12_no rfl ⟨Nat.le_of_ble_eq_true rfl, Nat.le_of_ble_eq_true rfl⟩ (Nat.le_of_ble_eq_true rfl) ⟨Nat.le_refl _, Nat.le_refl _⟩ (fun b => b) ?_
  refine r_istore_n (pc := 5) (L' := [(2, vI r3), (0, vR (some t)), (1, vI x1)]) dX12_noBits_5 rfl (by decide) rfl ?_
  refine r_lconst (pc := 6) dX12_noBits_6 kc_lconst_0 ?_
  cases h
  exact r_lret dX12_noBits_7
abbrev WX12_thing (G : Gx) (l : Launch) (σ0 : Shp) (X1 : Stt) (rv : Option SV) : Stt → Nat → List (Nat × SV) → List SV → Prop := Wm G l yX12_thing cX12_thing 3 (some .int) (fun _ => True) (rmx 0 0 σ0 X1.1) σ0 (Qmx G σ0 X1 rv)
def fX12_thing (σ : Shp) (I : Nat → Nat → Int32) (R : Nat → Nat → Option Nat) (t : Nat) (x1 : Int32) (x2 : Int32) : Option ((Nat → Nat → Int32) × (Int32)) :=
  if kdx σ t = 13 then
  let I2 := u2 I t 0 ((I t 0) + (1 : Int32))
  ((R t 4) : Option Nat).bind fun a3 =>
  if kdx σ a3 = 22 then
  if ¬ ((I2 t 0) < 0 ∨ lnx σ a3 ≤ Int32.toNatClampNeg (I2 t 0)) then
  let I6 := u2 I2 a3 (Int32.toNatClampNeg (I2 t 0)) ((Int32.toInt8 ((Int32.toInt8 x1).toInt32)).toInt32)
  ((R t 5) : Option Nat).bind fun a7 =>
  if kdx σ a7 = 22 then
  if ¬ ((I6 t 0) < 0 ∨ lnx σ a7 ≤ Int32.toNatClampNeg (I6 t 0)) then
  let I10 := u2 I6 a7 (Int32.toNatClampNeg (I6 t 0)) ((Int32.toInt8 ((Int32.toInt8 x2).toInt32)).toInt32)
  some (I10, (I10 t 0))
  else none
  else none
  else none
  else none
  else none
theorem kX12_thing {G : Gx} {l : Launch} {σ : Shp} {I : Nat → Nat → Int32} {J : Nat → Nat → Int64} {D : Nat → Nat → UInt64} {R : Nat → Nat → Option Nat} {t : Nat} {x1 : Int32} {x2 : Int32} {I9 : Nat → Nat → Int32} {r9 : Int32} (h : fX12_thing σ I R t x1 x2 = some (I9, r9)) : Con G l yX12_thing cX12_thing 3 (some .int) 0 0 [vR (some t), vI x1, vI x2] (σ, I, J, D, R) (σ, I9, J, D, R) (some (vI r9)) := by
  unfold fX12_thing at h
  refine Con.mk (by decide +kernel) rfl (Nat.le_of_ble_eq_true rfl) ?_
  show WX12_thing G l σ (σ, I9, J, D, R) (some (vI r9)) (σ, I, J, D, R) 0 _ []
  refine r_aload_n (pc := 0) dX12_thing_0 rfl 0 rfl ?_
  refine r_dup (pc := 1) dX12_thing_1 rfl ?_
  obtain ⟨g1, h⟩ := gd h
  refine r_getI (pc := 2) dX12_thing_2 fgX12_302 rfl g1 ?_
  refine r_iconst (pc := 5) dX12_thing_5 kc_iconst_1 ?_
  refine r_iadd (pc := 6) dX12_thing_6 ?_
  refine r_putI (pc := 7) dX12_thing_7 fwX12_302 rfl g1 ?_
  refine r_aload_n (pc := 10) dX12_thing_10 rfl 0 rfl ?_
  obtain ⟨a3, ha3, h⟩ := ob h
  refine r_getS (pc := 11) dX12_thing_11 fgX12_15 rfl g1 ha3 ?_
  refine r_aload_n (pc := 14) dX12_thing_14 rfl 0 rfl ?_
  refine r_getI (pc := 15) dX12_thing_15 fgX12_302 rfl g1 ?_
  refine r_iload_n (pc := 18) dX12_thing_18 rfl 1 rfl ?_
  refine r_i2b (pc := 19) dX12_thing_19 ?_
  obtain ⟨g4, h⟩ := gd h
  obtain ⟨g5, h⟩ := gd h
  refine r_bastore (pc := 20) dX12_thing_20 g4 g5 ?_
  refine r_aload_n (pc := 21) dX12_thing_21 rfl 0 rfl ?_
  obtain ⟨a7, ha7, h⟩ := ob h
  refine r_getS (pc := 22) dX12_thing_22 fgX12_19 rfl g1 ha7 ?_
  refine r_aload_n (pc := 25) dX12_thing_25 rfl 0 rfl ?_
  refine r_getI (pc := 26) dX12_thing_26 fgX12_302 rfl g1 ?_
  refine r_iload_n (pc := 29) dX12_thing_29 rfl 2 rfl ?_
  refine r_i2b (pc := 30) dX12_thing_30 ?_
  obtain ⟨g8, h⟩ := gd h
  obtain ⟨g9, h⟩ := gd h
  refine r_bastore (pc := 31) dX12_thing_31 g8 g9 ?_
  refine r_aload_n (pc := 32) dX12_thing_32 rfl 0 rfl ?_
  refine r_getI (pc := 33) dX12_thing_33 fgX12_302 rfl g1 ?_
  cases h
  exact r_iret dX12_thing_36
abbrev WX12_newRow (G : Gx) (l : Launch) (σ0 : Shp) (X1 : Stt) (rv : Option SV) : Stt → Nat → List (Nat × SV) → List SV → Prop := Wm G l yX12_newRow cX12_newRow 4 (some .int) (fun _ => True) (rmx 1 22 σ0 X1.1) σ0 (Qmx G σ0 X1 rv)
def fX12_newRow (σ : Shp) (I : Nat → Nat → Int32) (R : Nat → Nat → Option Nat) (t : Nat) (x1 : Int32) (x2 : Int32) : Option ((Nat → Nat → Int32) × (Int32)) :=
  if kdx σ t = 13 then
  (fX12_thing σ I R t x1 x2).bind fun (I2, r3) =>
  ((R t 6) : Option Nat).bind fun a5 =>
  if kdx σ a5 = 20 then
  if ¬ (r3 < 0 ∨ lnx σ a5 ≤ Int32.toNatClampNeg r3) then
  let I8 := u2 I2 a5 (Int32.toNatClampNeg r3) (I2 t 7)
  let I9 := u2 I8 t 7 ((I8 t 7) + x2)
  some (I9, r3)
  else none
  else none
  else none
theorem kX12_newRow {G : Gx} {l : Launch} {σ : Shp} {I : Nat → Nat → Int32} {J : Nat → Nat → Int64} {D : Nat → Nat → UInt64} {R : Nat → Nat → Option Nat} {t : Nat} {x1 : Int32} {x2 : Int32} {I9 : Nat → Nat → Int32} {r9 : Int32} (h : fX12_newRow σ I R t x1 x2 = some (I9, r9)) : Con G l yX12_newRow cX12_newRow 4 (some .int) 1 22 [vR (some t), vI x1, vI x2] (σ, I, J, D, R) (σ, I9, J, D, R) (some (vI r9)) := by
  unfold fX12_newRow at h
  refine Con.mk (by decide +kernel) rfl (Nat.le_of_ble_eq_true rfl) ?_
  show WX12_newRow G l σ (σ, I9, J, D, R) (some (vI r9)) (σ, I, J, D, R) 0 _ []
  refine r_aload_n (pc := 0) dX12_newRow_0 rfl 0 rfl ?_
  refine r_iload_n (pc := 1) dX12_newRow_1 rfl 1 rfl ?_
  refine r_iload_n (pc := 2) dX12_newRow_2 rfl 2 rfl ?_
  obtain ⟨g1, h⟩ := gd h
  obtain ⟨⟨I2, r3⟩, hc4, h⟩ := ob h
  refine r_callV1 (pc := 3) (av := [vI x1, vI x2]) (S := []) dX12_newRow_3 (kX12_thing hc4) g1 rfl mkX12_312 mwX12_thing rfl ⟨Nat.le_of_ble_eq_true rfl, Nat.le_of_ble_eq_true rfl⟩ (Nat.le_of_ble_eq_true rfl) ⟨Nat.le_refl _, Nat.le_refl _⟩ (fun b => b) ?_
  refine r_istore_n (pc := 6) (L' := [(3, vI r3), (0, vR (some t)), (1, vI x1), (2, vI x2)]) dX12_newRow_6 rfl (by decide) rfl ?_
  refine r_aload_n (pc := 7) dX12_newRow_7 rfl 1 rfl ?_
  obtain ⟨a5, ha5, h⟩ := ob h
  refine r_getS (pc := 8) dX12_newRow_8 fgX12_22 rfl g1 ha5 ?_
  refine r_iload_n (pc := 11) dX12_newRow_11 rfl 0 rfl ?_
  refine r_aload_n (pc := 12) dX12_newRow_12 rfl 1 rfl ?_
  refine r_getI (pc := 13) dX12_newRow_13 fgX12_316 rfl g1 ?_
  obtain ⟨g6, h⟩ := gd h
  obtain ⟨g7, h⟩ := gd h
  refine r_iastore (pc := 16) dX12_newRow_16 g6 g7 ?_
  refine r_aload_n (pc := 17) dX12_newRow_17 rfl 1 rfl ?_
  refine r_dup (pc := 18) dX12_newRow_18 rfl ?_
  refine r_getI (pc := 19) dX12_newRow_19 fgX12_316 rfl g1 ?_
  refine r_iload_n (pc := 22) dX12_newRow_22 rfl 3 rfl ?_
  refine r_iadd (pc := 23) dX12_newRow_23 ?_
  refine r_putI (pc := 24) dX12_newRow_24 fwX12_316 rfl g1 ?_
  refine r_iload_n (pc := 27) dX12_newRow_27 rfl 0 rfl ?_
  cases h
  exact r_iret dX12_newRow_28
abbrev WX12_newPlaces (G : Gx) (l : Launch) (σ0 : Shp) (X1 : Stt) (rv : Option SV) : Stt → Nat → List (Nat × SV) → List SV → Prop := Wm G l yX12_newPlaces cX12_newPlaces 4 (some .int) (fun _ => True) (rmx 1 22 σ0 X1.1) σ0 (Qmx G σ0 X1 rv)
def fX12_newPlaces (σ : Shp) (I : Nat → Nat → Int32) (R : Nat → Nat → Option Nat) (t : Nat) (x1 : Int32) (x2 : Int32) : Option ((Nat → Nat → Int32) × (Int32)) :=
  if kdx σ t = 13 then
  (fX12_thing σ I R t x1 x2).bind fun (I2, r3) =>
  ((R t 6) : Option Nat).bind fun a5 =>
  if kdx σ a5 = 20 then
  if ¬ (r3 < 0 ∨ lnx σ a5 ≤ Int32.toNatClampNeg r3) then
  let I8 := u2 I2 a5 (Int32.toNatClampNeg r3) (I2 t 9)
  let I9 := u2 I8 t 9 ((I8 t 9) + x2)
  some (I9, r3)
  else none
  else none
  else none
theorem kX12_newPlaces {G : Gx} {l : Launch} {σ : Shp} {I : Nat → Nat → Int32} {J : Nat → Nat → Int64} {D : Nat → Nat → UInt64} {R : Nat → Nat → Option Nat} {t : Nat} {x1 : Int32} {x2 : Int32} {I9 : Nat → Nat → Int32} {r9 : Int32} (h : fX12_newPlaces σ I R t x1 x2 = some (I9, r9)) : Con G l yX12_newPlaces cX12_newPlaces 4 (some .int) 1 22 [vR (some t), vI x1, vI x2] (σ, I, J, D, R) (σ, I9, J, D, R) (some (vI r9)) := by
  unfold fX12_newPlaces at h
  refine Con.mk (by decide +kernel) rfl (Nat.le_of_ble_eq_true rfl) ?_
  show WX12_newPlaces G l σ (σ, I9, J, D, R) (some (vI r9)) (σ, I, J, D, R) 0 _ []
  refine r_aload_n (pc := 0) dX12_newPlaces_0 rfl 0 rfl ?_
  refine r_iload_n (pc := 1) dX12_newPlaces_1 rfl 1 rfl ?_
  refine r_iload_n (pc := 2) dX12_newPlaces_2 rfl 2 rfl ?_
  obtain ⟨g1, h⟩ := gd h
  obtain ⟨⟨I2, r3⟩, hc4, h⟩ := ob h
  refine r_callV1 (pc := 3) (av := [vI x1, vI x2]) (S := []) dX12_newPlaces_3 (kX12_thing hc4) g1 rfl mkX12_312 mwX12_thing rfl ⟨Nat.le_of_ble_eq_true rfl, Nat.le_of_ble_eq_true rfl⟩ (Nat.le_of_ble_eq_true rfl) ⟨Nat.le_refl _, Nat.le_refl _⟩ (fun b => b) ?_
  refine r_istore_n (pc := 6) (L' := [(3, vI r3), (0, vR (some t)), (1, vI x1), (2, vI x2)]) dX12_newPlaces_6 rfl (by decide) rfl ?_
  refine r_aload_n (pc := 7) dX12_newPlaces_7 rfl 1 rfl ?_
  obtain ⟨a5, ha5, h⟩ := ob h
  refine r_getS (pc := 8) dX12_newPlaces_8 fgX12_22 rfl g1 ha5 ?_
  refine r_iload_n (pc := 11) dX12_newPlaces_11 rfl 0 rfl ?_
  refine r_aload_n (pc := 12) dX12_newPlaces_12 rfl 1 rfl ?_
  refine r_getI (pc := 13) dX12_newPlaces_13 fgX12_319 rfl g1 ?_
  obtain ⟨g6, h⟩ := gd h
  obtain ⟨g7, h⟩ := gd h
  refine r_iastore (pc := 16) dX12_newPlaces_16 g6 g7 ?_
  refine r_aload_n (pc := 17) dX12_newPlaces_17 rfl 1 rfl ?_
  refine r_dup (pc := 18) dX12_newPlaces_18 rfl ?_
  refine r_getI (pc := 19) dX12_newPlaces_19 fgX12_319 rfl g1 ?_
  refine r_iload_n (pc := 22) dX12_newPlaces_22 rfl 3 rfl ?_
  refine r_iadd (pc := 23) dX12_newPlaces_23 ?_
  refine r_putI (pc := 24) dX12_newPlaces_24 fwX12_319 rfl g1 ?_
  refine r_iload_n (pc := 27) dX12_newPlaces_27 rfl 0 rfl ?_
  cases h
  exact r_iret dX12_newPlaces_28
abbrev WX12_isRow (G : Gx) (l : Launch) (σ0 : Shp) (X1 : Stt) (rv : Option SV) : Stt → Nat → List (Nat × SV) → List SV → Prop := Wm G l yX12_isRow cX12_isRow 2 (some .boolean) (fun _ => True) (rmx 0 0 σ0 X1.1) σ0 (Qmx G σ0 X1 rv)
def fX12_isRow (σ : Shp) (I : Nat → Nat → Int32) (R : Nat → Nat → Option Nat) (t : Nat) (x1 : Int32) : Option ((Int32)) :=
  if kdx σ t = 13 then
  ((R t 4) : Option Nat).bind fun a2 =>
  if kdx σ a2 = 22 then
  if ¬ (x1 < 0 ∨ lnx σ a2 ≤ Int32.toNatClampNeg x1) then
  if (8 : Int32) ≤ (I a2 (Int32.toNatClampNeg x1)) then
    some (0 : Int32)
  else
    some (1 : Int32)
  else none
  else none
  else none
theorem kX12_isRow {G : Gx} {l : Launch} {σ : Shp} {I : Nat → Nat → Int32} {J : Nat → Nat → Int64} {D : Nat → Nat → UInt64} {R : Nat → Nat → Option Nat} {t : Nat} {x1 : Int32} {r9 : Int32} (h : fX12_isRow σ I R t x1 = some r9) : Con G l yX12_isRow cX12_isRow 2 (some .boolean) 0 0 [vR (some t), vI x1] (σ, I, J, D, R) (σ, I, J, D, R) (some (vI r9)) := by
  unfold fX12_isRow at h
  refine Con.mk (by decide +kernel) rfl (Nat.le_of_ble_eq_true rfl) ?_
  show WX12_isRow G l σ (σ, I, J, D, R) (some (vI r9)) (σ, I, J, D, R) 0 _ []
  refine r_aload_n (pc := 0) dX12_isRow_0 rfl 0 rfl ?_
  obtain ⟨g1, h⟩ := gd h
  obtain ⟨a2, ha2, h⟩ := ob h
  refine r_getS (pc := 1) dX12_isRow_1 fgX12_15 rfl g1 ha2 ?_
  refine r_iload_n (pc := 4) dX12_isRow_4 rfl 1 rfl ?_
  obtain ⟨g3, h⟩ := gd h
  obtain ⟨g4, h⟩ := gd h
  refine r_baload (pc := 5) dX12_isRow_5 g3 g4 ?_
  refine r_bipush (pc := 6) dX12_isRow_6 kc_bipush_8 ?_
  refine r_icmp_ge (pc := 8) (tgt := 15) dX12_isRow_8 rfl (fun c => ?_) (fun c => ?_)
  · have h := it h c
    refine r_iconst (pc := 15) dX12_isRow_15 kc_iconst_0 ?_
    cases h
    exact r_zret dX12_isRow_16 (Or.inl rfl)
  · have h := ie h c
    refine r_iconst (pc := 11) dX12_isRow_11 kc_iconst_1 ?_
    refine r_goto (pc := 12) (tgt := 16) dX12_isRow_12 rfl ?_
    cases h
    exact r_zret dX12_isRow_16 (Or.inr rfl)
abbrev WX12_hasPlaces (G : Gx) (l : Launch) (σ0 : Shp) (X1 : Stt) (rv : Option SV) : Stt → Nat → List (Nat × SV) → List SV → Prop := Wm G l yX12_hasPlaces cX12_hasPlaces 2 (some .boolean) (fun _ => True) (rmx 0 0 σ0 X1.1) σ0 (Qmx G σ0 X1 rv)
def fX12_hasPlaces (σ : Shp) (I : Nat → Nat → Int32) (R : Nat → Nat → Option Nat) (t : Nat) (x1 : Int32) : Option ((Int32)) :=
  if kdx σ t = 13 then
  ((R t 4) : Option Nat).bind fun a2 =>
  if kdx σ a2 = 22 then
  if ¬ (x1 < 0 ∨ lnx σ a2 ≤ Int32.toNatClampNeg x1) then
  if (I a2 (Int32.toNatClampNeg x1)) < (8 : Int32) then
    some (0 : Int32)
  else
    if (15 : Int32) < (I a2 (Int32.toNatClampNeg x1)) then
      some (0 : Int32)
    else
      some (1 : Int32)
  else none
  else none
  else none
theorem kX12_hasPlaces {G : Gx} {l : Launch} {σ : Shp} {I : Nat → Nat → Int32} {J : Nat → Nat → Int64} {D : Nat → Nat → UInt64} {R : Nat → Nat → Option Nat} {t : Nat} {x1 : Int32} {r9 : Int32} (h : fX12_hasPlaces σ I R t x1 = some r9) : Con G l yX12_hasPlaces cX12_hasPlaces 2 (some .boolean) 0 0 [vR (some t), vI x1] (σ, I, J, D, R) (σ, I, J, D, R) (some (vI r9)) := by
  unfold fX12_hasPlaces at h
  refine Con.mk (by decide +kernel) rfl (Nat.le_of_ble_eq_true rfl) ?_
  show WX12_hasPlaces G l σ (σ, I, J, D, R) (some (vI r9)) (σ, I, J, D, R) 0 _ []
  refine r_aload_n (pc := 0) dX12_hasPlaces_0 rfl 0 rfl ?_
  obtain ⟨g1, h⟩ := gd h
  obtain ⟨a2, ha2, h⟩ := ob h
  refine r_getS (pc := 1) dX12_hasPlaces_1 fgX12_15 rfl g1 ha2 ?_
  refine r_iload_n (pc := 4) dX12_hasPlaces_4 rfl 1 rfl ?_
  obtain ⟨g3, h⟩ := gd h
  obtain ⟨g4, h⟩ := gd h
  refine r_baload (pc := 5) dX12_hasPlaces_5 g3 g4 ?_
  refine r_bipush (pc := 6) dX12_hasPlaces_6 kc_bipush_8 ?_
  refine r_icmp_lt (pc := 8) (tgt := 26) dX12_hasPlaces_8 rfl (fun c => ?_) (fun c => ?_)
  · have h := it h c
    refine r_iconst (pc := 26) dX12_hasPlaces_26 kc_iconst_0 ?_
    cases h
    exact r_zret dX12_hasPlaces_27 (Or.inl rfl)
  · have h := ie h c
    refine r_aload_n (pc := 11) dX12_hasPlaces_11 rfl 0 rfl ?_
    refine r_getS (pc := 12) dX12_hasPlaces_12 fgX12_15 rfl g1 ha2 ?_
    refine r_iload_n (pc := 15) dX12_hasPlaces_15 rfl 1 rfl ?_
    refine r_baload (pc := 16) dX12_hasPlaces_16 g3 g4 ?_
    refine r_bipush (pc := 17) dX12_hasPlaces_17 kc_bipush_15 ?_
    refine r_icmp_gt (pc := 19) (tgt := 26) dX12_hasPlaces_19 rfl (fun c => ?_) (fun c => ?_)
    · have h := it h c
      refine r_iconst (pc := 26) dX12_hasPlaces_26 kc_iconst_0 ?_
      cases h
      exact r_zret dX12_hasPlaces_27 (Or.inl rfl)
    · have h := ie h c
      refine r_iconst (pc := 22) dX12_hasPlaces_22 kc_iconst_1 ?_
      refine r_goto (pc := 23) (tgt := 27) dX12_hasPlaces_23 rfl ?_
      cases h
      exact r_zret dX12_hasPlaces_27 (Or.inr rfl)
abbrev WX12_isOf (G : Gx) (l : Launch) (σ0 : Shp) (X1 : Stt) (rv : Option SV) : Stt → Nat → List (Nat × SV) → List SV → Prop := Wm G l yX12_isOf cX12_isOf 3 (some .boolean) (fun _ => True) (rmx 0 0 σ0 X1.1) σ0 (Qmx G σ0 X1 rv)
def fX12_isOf (σ : Shp) (I : Nat → Nat → Int32) (R : Nat → Nat → Option Nat) (t : Nat) (x1 : Int32) (x2 : Int32) : Option ((Int32)) :=
  if x1 = 0 then
    some (1 : Int32)
  else
    if kdx σ t = 13 then
    ((R t 4) : Option Nat).bind fun a2 =>
    if kdx σ a2 = 22 then
    if ¬ (x1 < 0 ∨ lnx σ a2 ≤ Int32.toNatClampNeg x1) then
    if (I a2 (Int32.toNatClampNeg x1)) = x2 then
      some (1 : Int32)
    else
      some (0 : Int32)
    else none
    else none
    else none
theorem kX12_isOf {G : Gx} {l : Launch} {σ : Shp} {I : Nat → Nat → Int32} {J : Nat → Nat → Int64} {D : Nat → Nat → UInt64} {R : Nat → Nat → Option Nat} {t : Nat} {x1 : Int32} {x2 : Int32} {r9 : Int32} (h : fX12_isOf σ I R t x1 x2 = some r9) : Con G l yX12_isOf cX12_isOf 3 (some .boolean) 0 0 [vR (some t), vI x1, vI x2] (σ, I, J, D, R) (σ, I, J, D, R) (some (vI r9)) := by
  unfold fX12_isOf at h
  refine Con.mk (by decide +kernel) rfl (Nat.le_of_ble_eq_true rfl) ?_
  show WX12_isOf G l σ (σ, I, J, D, R) (some (vI r9)) (σ, I, J, D, R) 0 _ []
  refine r_iload_n (pc := 0) dX12_isOf_0 rfl 1 rfl ?_
  refine r_if_eq (pc := 1) (tgt := 14) dX12_isOf_1 rfl (fun c => ?_) (fun c => ?_)
  · have h := it h c
    refine r_iconst (pc := 14) dX12_isOf_14 kc_iconst_1 ?_
    refine r_goto (pc := 15) (tgt := 19) dX12_isOf_15 rfl ?_
    cases h
    exact r_zret dX12_isOf_19 (Or.inr rfl)
  · have h := ie h c
    refine r_aload_n (pc := 4) dX12_isOf_4 rfl 0 rfl ?_
    obtain ⟨g1, h⟩ := gd h
    obtain ⟨a2, ha2, h⟩ := ob h
    refine r_getS (pc := 5) dX12_isOf_5 fgX12_15 rfl g1 ha2 ?_
    refine r_iload_n (pc := 8) dX12_isOf_8 rfl 1 rfl ?_
    obtain ⟨g3, h⟩ := gd h
    obtain ⟨g4, h⟩ := gd h
    refine r_baload (pc := 9) dX12_isOf_9 g3 g4 ?_
    refine r_iload_n (pc := 10) dX12_isOf_10 rfl 2 rfl ?_
    refine r_icmp_ne (pc := 11) (tgt := 18) dX12_isOf_11 rfl (fun c => ?_) (fun c => ?_)
    · have h := ie h c
      refine r_iconst (pc := 18) dX12_isOf_18 kc_iconst_0 ?_
      cases h
      exact r_zret dX12_isOf_19 (Or.inl rfl)
    · have h := it h c
      refine r_iconst (pc := 14) dX12_isOf_14 kc_iconst_1 ?_
      refine r_goto (pc := 15) (tgt := 19) dX12_isOf_15 rfl ?_
      cases h
      exact r_zret dX12_isOf_19 (Or.inr rfl)
abbrev WX12_looked (G : Gx) (l : Launch) (σ0 : Shp) (X1 : Stt) (rv : Option SV) : Stt → Nat → List (Nat × SV) → List SV → Prop := Wm G l yX12_looked cX12_looked 3 (some .int) (fun _ => True) (rmx 1 22 σ0 X1.1) σ0 (Qmx G σ0 X1 rv)
def fX12_looked (σ : Shp) (I : Nat → Nat → Int32) (R : Nat → Nat → Option Nat) (t : Nat) (x1 : Int32) (x2 : Int32) : Option ((Int32)) :=
  if x1 = 0 then
    some (1 : Int32)
  else
    if kdx σ t = 13 then
    ((R t 5) : Option Nat).bind fun a2 =>
    if kdx σ a2 = 22 then
    if ¬ (x1 < 0 ∨ lnx σ a2 ≤ Int32.toNatClampNeg x1) then
    if (fX12_in x2 (0 : Int32) ((I a2 (Int32.toNatClampNeg x1)) - (1 : Int32))) = 0 then
      some (2 : Int32)
    else
      some (0 : Int32)
    else none
    else none
    else none
theorem kX12_looked {G : Gx} {l : Launch} {σ : Shp} {I : Nat → Nat → Int32} {J : Nat → Nat → Int64} {D : Nat → Nat → UInt64} {R : Nat → Nat → Option Nat} {t : Nat} {x1 : Int32} {x2 : Int32} {r9 : Int32} (h : fX12_looked σ I R t x1 x2 = some r9) : Con G l yX12_looked cX12_looked 3 (some .int) 1 22 [vR (some t), vI x1, vI x2] (σ, I, J, D, R) (σ, I, J, D, R) (some (vI r9)) := by
  unfold fX12_looked at h
  refine Con.mk (by decide +kernel) rfl (Nat.le_of_ble_eq_true rfl) ?_
  show WX12_looked G l σ (σ, I, J, D, R) (some (vI r9)) (σ, I, J, D, R) 0 _ []
  refine r_iload_n (pc := 0) dX12_looked_0 rfl 1 rfl ?_
  refine r_ifne (pc := 1) (tgt := 8) dX12_looked_1 rfl (fun c => ?_) (fun c => ?_)
  · have h := ie h c
    refine r_iload_n (pc := 8) dX12_looked_8 rfl 2 rfl ?_
    refine r_iconst (pc := 9) dX12_looked_9 kc_iconst_0 ?_
    refine r_aload_n (pc := 10) dX12_looked_10 rfl 0 rfl ?_
    obtain ⟨g1, h⟩ := gd h
    obtain ⟨a2, ha2, h⟩ := ob h
    refine r_getS (pc := 11) dX12_looked_11 fgX12_19 rfl g1 ha2 ?_
    refine r_iload_n (pc := 14) dX12_looked_14 rfl 1 rfl ?_
    obtain ⟨g3, h⟩ := gd h
    obtain ⟨g4, h⟩ := gd h
    refine r_baload (pc := 15) dX12_looked_15 g3 g4 ?_
    refine r_iconst (pc := 16) dX12_looked_16 kc_iconst_1 ?_
    refine r_isub (pc := 17) dX12_looked_17 ?_
    refine r_callS1 (pc := 18) (av := [vI x2, vI (0 : Int32), vI ((I a2 (Int32.toNatClampNeg x1)) - (1 : Int32))]) (S := []) dX12_looked_18 (kX12_in rfl) mkX12_322 mwX12_in rfl ⟨Nat.le_of_ble_eq_true rfl, Nat.le_of_ble_eq_true rfl⟩ (Nat.le_of_ble_eq_true rfl) ⟨Nat.le_refl _, Nat.le_refl _⟩ (fun b => b) ?_
    refine r_if_eq (pc := 21) (tgt := 28) dX12_looked_21 rfl (fun c => ?_) (fun c => ?_)
    · have h := it h c
      refine r_iconst (pc := 28) dX12_looked_28 kc_iconst_2 ?_
      cases h
      exact r_iret dX12_looked_29
    · have h := ie h c
      refine r_iconst (pc := 24) dX12_looked_24 kc_iconst_0 ?_
      refine r_goto (pc := 25) (tgt := 29) dX12_looked_25 rfl ?_
      cases h
      exact r_iret dX12_looked_29
  · have h := it h c
    refine r_iconst (pc := 4) dX12_looked_4 kc_iconst_1 ?_
    refine r_goto (pc := 5) (tgt := 29) dX12_looked_5 rfl ?_
    cases h
    exact r_iret dX12_looked_29
abbrev WX12_laneOf (G : Gx) (l : Launch) (σ0 : Shp) (X1 : Stt) (rv : Option SV) : Stt → Nat → List (Nat × SV) → List SV → Prop := Wm G l yX12_laneOf cX12_laneOf 1 (some .int) (fun _ => True) (rmx 0 0 σ0 X1.1) σ0 (Qmx G σ0 X1 rv)
def fX12_laneOf  (x0 : Int32) : (Int32) :=
  if x0 = (8 : Int32) then
    (3 : Int32)
  else
    if x0 = (9 : Int32) then
      (4 : Int32)
    else
      (7 : Int32)
theorem kX12_laneOf {G : Gx} {l : Launch} {σ : Shp} {I : Nat → Nat → Int32} {J : Nat → Nat → Int64} {D : Nat → Nat → UInt64} {R : Nat → Nat → Option Nat} {x0 : Int32} {r9 : Int32} (h : fX12_laneOf x0 = r9) : Con G l yX12_laneOf cX12_laneOf 1 (some .int) 0 0 [vI x0] (σ, I, J, D, R) (σ, I, J, D, R) (some (vI r9)) := by
  unfold fX12_laneOf at h
  refine Con.mk (by decide +kernel) rfl (Nat.le_of_ble_eq_true rfl) ?_
  show WX12_laneOf G l σ (σ, I, J, D, R) (some (vI r9)) (σ, I, J, D, R) 0 _ []
  refine r_iload_n (pc := 0) dX12_laneOf_0 rfl 0 rfl ?_
  refine r_bipush (pc := 1) dX12_laneOf_1 kc_bipush_8 ?_
  refine r_icmp_ne (pc := 3) (tgt := 10) dX12_laneOf_3 rfl (fun c => ?_) (fun c => ?_)
  · have h := ie h c
    refine r_iload_n (pc := 10) dX12_laneOf_10 rfl 0 rfl ?_
    refine r_bipush (pc := 11) dX12_laneOf_11 kc_bipush_9 ?_
    refine r_icmp_ne (pc := 13) (tgt := 20) dX12_laneOf_13 rfl (fun c => ?_) (fun c => ?_)
    · have h := ie h c
      refine r_bipush (pc := 20) dX12_laneOf_20 kc_bipush_7 ?_
      subst h
      exact r_iret dX12_laneOf_22
    · have h := it h c
      refine r_iconst (pc := 16) dX12_laneOf_16 kc_iconst_4 ?_
      refine r_goto (pc := 17) (tgt := 22) dX12_laneOf_17 rfl ?_
      subst h
      exact r_iret dX12_laneOf_22
  · have h := it h c
    refine r_iconst (pc := 6) dX12_laneOf_6 kc_iconst_3 ?_
    refine r_goto (pc := 7) (tgt := 22) dX12_laneOf_7 rfl ?_
    subst h
    exact r_iret dX12_laneOf_22
abbrev WX12_isTrayFor (G : Gx) (l : Launch) (σ0 : Shp) (X1 : Stt) (rv : Option SV) : Stt → Nat → List (Nat × SV) → List SV → Prop := Wm G l yX12_isTrayFor cX12_isTrayFor 2 (some .boolean) (fun _ => True) (rmx 0 0 σ0 X1.1) σ0 (Qmx G σ0 X1 rv)
def fX12_isTrayFor  (x0 : Int32) (x1 : Int32) : (Int32) :=
  if x0 = (12 : Int32) then
    if (3 : Int32) < x1 then
      (0 : Int32)
    else
      (1 : Int32)
  else
  if x0 = (13 : Int32) then
    if x1 = (1 : Int32) then
      (1 : Int32)
    else
      if x1 = (2 : Int32) then
        (1 : Int32)
      else
        (0 : Int32)
  else
  if x0 = (14 : Int32) then
    if x1 = 0 then
      (1 : Int32)
    else
      if x1 = (3 : Int32) then
        (1 : Int32)
      else
        (0 : Int32)
  else
  if x1 = (1 : Int32) then
    (1 : Int32)
  else
    if x1 = (2 : Int32) then
      (1 : Int32)
    else
      if x1 = (3 : Int32) then
        (1 : Int32)
      else
        if x1 = (5 : Int32) then
          (1 : Int32)
        else
          (0 : Int32)
theorem zX12_isTrayFor  (x0 : Int32) (x1 : Int32) : fX12_isTrayFor x0 x1 = 0 ∨ fX12_isTrayFor x0 x1 = 1 := by
  unfold fX12_isTrayFor
  repeat' (first | refine itz ?_ ?_ | exact Or.inl rfl | exact Or.inr rfl)
theorem kX12_isTrayFor {G : Gx} {l : Launch} {σ : Shp} {I : Nat → Nat → Int32} {J : Nat → Nat → Int64} {D : Nat → Nat → UInt64} {R : Nat → Nat → Option Nat} {x0 : Int32} {x1 : Int32} {r9 : Int32} (h : fX12_isTrayFor x0 x1 = r9) : Con G l yX12_isTrayFor cX12_isTrayFor 2 (some .boolean) 0 0 [vI x0, vI x1] (σ, I, J, D, R) (σ, I, J, D, R) (some (vI r9)) := by
  unfold fX12_isTrayFor at h
  refine Con.mk (by decide +kernel) rfl (Nat.le_of_ble_eq_true rfl) ?_
  show WX12_isTrayFor G l σ (σ, I, J, D, R) (some (vI r9)) (σ, I, J, D, R) 0 _ []
  refine r_iload_n (pc := 0) dX12_isTrayFor_0 rfl 0 rfl ?_
  rcases itc h with ⟨c1, h⟩ | ⟨c1, h⟩
  · refine r_tsIn (x := x0) (pc := 1) (tgt := 28) dX12_isTrayFor_1 (by rw [c1]; decide) (by rw [c1]; decide) (by rw [c1]; rfl) rfl ?_
    refine r_iload_n (pc := 28) dX12_isTrayFor_28 rfl 1 rfl ?_
    refine r_iconst (pc := 29) dX12_isTrayFor_29 kc_iconst_3 ?_
    refine r_icmp_gt (pc := 30) (tgt := 37) dX12_isTrayFor_30 rfl (fun c => ?_) (fun c => ?_)
    · have h := it h c
      refine r_iconst (pc := 37) dX12_isTrayFor_37 kc_iconst_0 ?_
      subst h
      exact r_zret dX12_isTrayFor_38 (Or.inl rfl)
    · have h := ie h c
      refine r_iconst (pc := 33) dX12_isTrayFor_33 kc_iconst_1 ?_
      refine r_goto (pc := 34) (tgt := 38) dX12_isTrayFor_34 rfl ?_
      subst h
      exact r_zret dX12_isTrayFor_38 (Or.inr rfl)
  · rcases itc h with ⟨c2, h⟩ | ⟨c2, h⟩
    · refine r_tsIn (x := x0) (pc := 1) (tgt := 39) dX12_isTrayFor_1 (by rw [c2]; decide) (by rw [c2]; decide) (by rw [c2]; rfl) rfl ?_
      refine r_iload_n (pc := 39) dX12_isTrayFor_39 rfl 1 rfl ?_
      refine r_iconst (pc := 40) dX12_isTrayFor_40 kc_iconst_1 ?_
      refine r_icmp_eq (pc := 41) (tgt := 49) dX12_isTrayFor_41 rfl (fun c => ?_) (fun c => ?_)
      · have h := it h c
        refine r_iconst (pc := 49) dX12_isTrayFor_49 kc_iconst_1 ?_
        refine r_goto (pc := 50) (tgt := 54) dX12_isTrayFor_50 rfl ?_
        subst h
        exact r_zret dX12_isTrayFor_54 (Or.inr rfl)
      · have h := ie h c
        refine r_iload_n (pc := 44) dX12_isTrayFor_44 rfl 1 rfl ?_
        refine r_iconst (pc := 45) dX12_isTrayFor_45 kc_iconst_2 ?_
        refine r_icmp_ne (pc := 46) (tgt := 53) dX12_isTrayFor_46 rfl (fun c => ?_) (fun c => ?_)
        · have h := ie h c
          refine r_iconst (pc := 53) dX12_isTrayFor_53 kc_iconst_0 ?_
          subst h
          exact r_zret dX12_isTrayFor_54 (Or.inl rfl)
        · have h := it h c
          refine r_iconst (pc := 49) dX12_isTrayFor_49 kc_iconst_1 ?_
          refine r_goto (pc := 50) (tgt := 54) dX12_isTrayFor_50 rfl ?_
          subst h
          exact r_zret dX12_isTrayFor_54 (Or.inr rfl)
    · rcases itc h with ⟨c3, h⟩ | ⟨c3, h⟩
      · refine r_tsIn (x := x0) (pc := 1) (tgt := 55) dX12_isTrayFor_1 (by rw [c3]; decide) (by rw [c3]; decide) (by rw [c3]; rfl) rfl ?_
        refine r_iload_n (pc := 55) dX12_isTrayFor_55 rfl 1 rfl ?_
        refine r_if_eq (pc := 56) (tgt := 64) dX12_isTrayFor_56 rfl (fun c => ?_) (fun c => ?_)
        · have h := it h c
          refine r_iconst (pc := 64) dX12_isTrayFor_64 kc_iconst_1 ?_
          refine r_goto (pc := 65) (tgt := 69) dX12_isTrayFor_65 rfl ?_
          subst h
          exact r_zret dX12_isTrayFor_69 (Or.inr rfl)
        · have h := ie h c
          refine r_iload_n (pc := 59) dX12_isTrayFor_59 rfl 1 rfl ?_
          refine r_iconst (pc := 60) dX12_isTrayFor_60 kc_iconst_3 ?_
          refine r_icmp_ne (pc := 61) (tgt := 68) dX12_isTrayFor_61 rfl (fun c => ?_) (fun c => ?_)
          · have h := ie h c
            refine r_iconst (pc := 68) dX12_isTrayFor_68 kc_iconst_0 ?_
            subst h
            exact r_zret dX12_isTrayFor_69 (Or.inl rfl)
          · have h := it h c
            refine r_iconst (pc := 64) dX12_isTrayFor_64 kc_iconst_1 ?_
            refine r_goto (pc := 65) (tgt := 69) dX12_isTrayFor_65 rfl ?_
            subst h
            exact r_zret dX12_isTrayFor_69 (Or.inr rfl)
      · refine r_tsOut (x := x0) (pc := 1) (tgt := 70) dX12_isTrayFor_1 (by have ec1 := i32n c1 (k := 12) rfl; have ec2 := i32n c2 (k := 13) rfl; have ec3 := i32n c3 (k := 14) rfl; omega) rfl ?_
        refine r_iload_n (pc := 70) dX12_isTrayFor_70 rfl 1 rfl ?_
        refine r_iconst (pc := 71) dX12_isTrayFor_71 kc_iconst_1 ?_
        refine r_icmp_eq (pc := 72) (tgt := 90) dX12_isTrayFor_72 rfl (fun c => ?_) (fun c => ?_)
        · have h := it h c
          refine r_iconst (pc := 90) dX12_isTrayFor_90 kc_iconst_1 ?_
          refine r_goto (pc := 91) (tgt := 95) dX12_isTrayFor_91 rfl ?_
          subst h
          exact r_zret dX12_isTrayFor_95 (Or.inr rfl)
        · have h := ie h c
          refine r_iload_n (pc := 75) dX12_isTrayFor_75 rfl 1 rfl ?_
          refine r_iconst (pc := 76) dX12_isTrayFor_76 kc_iconst_2 ?_
          refine r_icmp_eq (pc := 77) (tgt := 90) dX12_isTrayFor_77 rfl (fun c => ?_) (fun c => ?_)
          · have h := it h c
            refine r_iconst (pc := 90) dX12_isTrayFor_90 kc_iconst_1 ?_
            refine r_goto (pc := 91) (tgt := 95) dX12_isTrayFor_91 rfl ?_
            subst h
            exact r_zret dX12_isTrayFor_95 (Or.inr rfl)
          · have h := ie h c
            refine r_iload_n (pc := 80) dX12_isTrayFor_80 rfl 1 rfl ?_
            refine r_iconst (pc := 81) dX12_isTrayFor_81 kc_iconst_3 ?_
            refine r_icmp_eq (pc := 82) (tgt := 90) dX12_isTrayFor_82 rfl (fun c => ?_) (fun c => ?_)
            · have h := it h c
              refine r_iconst (pc := 90) dX12_isTrayFor_90 kc_iconst_1 ?_
              refine r_goto (pc := 91) (tgt := 95) dX12_isTrayFor_91 rfl ?_
              subst h
              exact r_zret dX12_isTrayFor_95 (Or.inr rfl)
            · have h := ie h c
              refine r_iload_n (pc := 85) dX12_isTrayFor_85 rfl 1 rfl ?_
              refine r_iconst (pc := 86) dX12_isTrayFor_86 kc_iconst_5 ?_
              refine r_icmp_ne (pc := 87) (tgt := 94) dX12_isTrayFor_87 rfl (fun c => ?_) (fun c => ?_)
              · have h := ie h c
                refine r_iconst (pc := 94) dX12_isTrayFor_94 kc_iconst_0 ?_
                subst h
                exact r_zret dX12_isTrayFor_95 (Or.inl rfl)
              · have h := it h c
                refine r_iconst (pc := 90) dX12_isTrayFor_90 kc_iconst_1 ?_
                refine r_goto (pc := 91) (tgt := 95) dX12_isTrayFor_91 rfl ?_
                subst h
                exact r_zret dX12_isTrayFor_95 (Or.inr rfl)
abbrev WX12_isFor (G : Gx) (l : Launch) (σ0 : Shp) (X1 : Stt) (rv : Option SV) : Stt → Nat → List (Nat × SV) → List SV → Prop := Wm G l yX12_isFor cX12_isFor 3 (some .boolean) (fun _ => True) (rmx 1 21 σ0 X1.1) σ0 (Qmx G σ0 X1 rv)
def fX12_isFor (σ : Shp) (I : Nat → Nat → Int32) (R : Nat → Nat → Option Nat) (t : Nat) (x1 : Int32) (x2 : Int32) : Option ((Int32)) :=
  if x2 = 0 then
    some (1 : Int32)
  else
    if (11 : Int32) ≤ x1 then
      if x1 = (11 : Int32) then
        if kdx σ t = 13 then
        ((R t 4) : Option Nat).bind fun a9 =>
        if kdx σ a9 = 22 then
        if ¬ (x2 < 0 ∨ lnx σ a9 ≤ Int32.toNatClampNeg x2) then
        if (I a9 (Int32.toNatClampNeg x2)) = (9 : Int32) then
          some (1 : Int32)
        else
          some (0 : Int32)
        else none
        else none
        else none
      else
        if kdx σ t = 13 then
        ((R t 4) : Option Nat).bind fun a2 =>
        if kdx σ a2 = 22 then
        if ¬ (x2 < 0 ∨ lnx σ a2 ≤ Int32.toNatClampNeg x2) then
        if (I a2 (Int32.toNatClampNeg x2)) = (16 : Int32) then
          ((R t 12) : Option Nat).bind fun a5 =>
          if kdx σ a5 = 22 then
          if ¬ (x2 < 0 ∨ lnx σ a5 ≤ Int32.toNatClampNeg x2) then
          if (fX12_isTrayFor x1 (I a5 (Int32.toNatClampNeg x2))) = 0 then
            some (0 : Int32)
          else
            some (1 : Int32)
          else none
          else none
        else
          some (0 : Int32)
        else none
        else none
        else none
    else
      if kdx σ t = 13 then
      ((R t 4) : Option Nat).bind fun a13 =>
      if kdx σ a13 = 22 then
      if ¬ (x2 < 0 ∨ lnx σ a13 ≤ Int32.toNatClampNeg x2) then
      if (I a13 (Int32.toNatClampNeg x2)) = (fX12_laneOf x1) then
        some (1 : Int32)
      else
        some (0 : Int32)
      else none
      else none
      else none
theorem kX12_isFor {G : Gx} {l : Launch} {σ : Shp} {I : Nat → Nat → Int32} {J : Nat → Nat → Int64} {D : Nat → Nat → UInt64} {R : Nat → Nat → Option Nat} {t : Nat} {x1 : Int32} {x2 : Int32} {r9 : Int32} (h : fX12_isFor σ I R t x1 x2 = some r9) : Con G l yX12_isFor cX12_isFor 3 (some .boolean) 1 21 [vR (some t), vI x1, vI x2] (σ, I, J, D, R) (σ, I, J, D, R) (some (vI r9)) := by
  unfold fX12_isFor at h
  refine Con.mk (by decide +kernel) rfl (Nat.le_of_ble_eq_true rfl) ?_
  show WX12_isFor G l σ (σ, I, J, D, R) (some (vI r9)) (σ, I, J, D, R) 0 _ []
  refine r_iload_n (pc := 0) dX12_isFor_0 rfl 2 rfl ?_
  refine r_ifne (pc := 1) (tgt := 6) dX12_isFor_1 rfl (fun c => ?_) (fun c => ?_)
  · have h := ie h c
    refine r_iload_n (pc := 6) dX12_isFor_6 rfl 1 rfl ?_
    refine r_bipush (pc := 7) dX12_isFor_7 kc_bipush_11 ?_
    refine r_icmp_ge (pc := 9) (tgt := 31) dX12_isFor_9 rfl (fun c => ?_) (fun c => ?_)
    · have h := it h c
      refine r_iload_n (pc := 31) dX12_isFor_31 rfl 1 rfl ?_
      refine r_bipush (pc := 32) dX12_isFor_32 kc_bipush_11 ?_
      refine r_icmp_ne (pc := 34) (tgt := 56) dX12_isFor_34 rfl (fun c => ?_) (fun c => ?_)
      · have h := ie h c
        refine r_aload_n (pc := 56) dX12_isFor_56 rfl 0 rfl ?_
        obtain ⟨g1, h⟩ := gd h
        obtain ⟨a2, ha2, h⟩ := ob h
        refine r_getS (pc := 57) dX12_isFor_57 fgX12_15 rfl g1 ha2 ?_
        refine r_iload_n (pc := 60) dX12_isFor_60 rfl 2 rfl ?_
        obtain ⟨g3, h⟩ := gd h
        obtain ⟨g4, h⟩ := gd h
        refine r_baload (pc := 61) dX12_isFor_61 g3 g4 ?_
        refine r_bipush (pc := 62) dX12_isFor_62 kc_bipush_16 ?_
        refine r_icmp_ne (pc := 64) (tgt := 84) dX12_isFor_64 rfl (fun c => ?_) (fun c => ?_)
        · have h := ie h c
          refine r_iconst (pc := 84) dX12_isFor_84 kc_iconst_0 ?_
          cases h
          exact r_zret dX12_isFor_85 (Or.inl rfl)
        · have h := it h c
          refine r_iload_n (pc := 67) dX12_isFor_67 rfl 1 rfl ?_
          refine r_aload_n (pc := 68) dX12_isFor_68 rfl 0 rfl ?_
          obtain ⟨a5, ha5, h⟩ := ob h
          refine r_getS (pc := 69) dX12_isFor_69 fgX12_38 rfl g1 ha5 ?_
          refine r_iload_n (pc := 72) dX12_isFor_72 rfl 2 rfl ?_
          obtain ⟨g6, h⟩ := gd h
          obtain ⟨g7, h⟩ := gd h
          refine r_baload (pc := 73) dX12_isFor_73 g6 g7 ?_
          refine r_callS1 (pc := 74) (av := [vI x1, vI (I a5 (Int32.toNatClampNeg x2))]) (S := []) dX12_isFor_74 (kX12_isTrayFor rfl) mkX12_329 mwX12_isTrayFor rfl ⟨Nat.le_of_ble_eq_true rfl, Nat.le_of_ble_eq_true rfl⟩ (Nat.le_of_ble_eq_true rfl) ⟨Nat.le_refl _, Nat.le_refl _⟩ (fun b => b) ?_
          refine r_if_eq (pc := 77) (tgt := 84) dX12_isFor_77 rfl (fun c => ?_) (fun c => ?_)
          · have h := it h c
            refine r_iconst (pc := 84) dX12_isFor_84 kc_iconst_0 ?_
            cases h
            exact r_zret dX12_isFor_85 (Or.inl rfl)
          · have h := ie h c
            refine r_iconst (pc := 80) dX12_isFor_80 kc_iconst_1 ?_
            refine r_goto (pc := 81) (tgt := 85) dX12_isFor_81 rfl ?_
            cases h
            exact r_zret dX12_isFor_85 (Or.inr rfl)
      · have h := it h c
        refine r_aload_n (pc := 37) dX12_isFor_37 rfl 0 rfl ?_
        obtain ⟨g8, h⟩ := gd h
        obtain ⟨a9, ha9, h⟩ := ob h
        refine r_getS (pc := 38) dX12_isFor_38 fgX12_15 rfl g8 ha9 ?_
        refine r_iload_n (pc := 41) dX12_isFor_41 rfl 2 rfl ?_
        obtain ⟨g10, h⟩ := gd h
        obtain ⟨g11, h⟩ := gd h
        refine r_baload (pc := 42) dX12_isFor_42 g10 g11 ?_
        refine r_bipush (pc := 43) dX12_isFor_43 kc_bipush_9 ?_
        refine r_icmp_ne (pc := 45) (tgt := 52) dX12_isFor_45 rfl (fun c => ?_) (fun c => ?_)
        · have h := ie h c
          refine r_iconst (pc := 52) dX12_isFor_52 kc_iconst_0 ?_
          refine r_goto (pc := 53) (tgt := 85) dX12_isFor_53 rfl ?_
          cases h
          exact r_zret dX12_isFor_85 (Or.inl rfl)
        · have h := it h c
          refine r_iconst (pc := 48) dX12_isFor_48 kc_iconst_1 ?_
          refine r_goto (pc := 49) (tgt := 85) dX12_isFor_49 rfl ?_
          cases h
          exact r_zret dX12_isFor_85 (Or.inr rfl)
    · have h := ie h c
      refine r_aload_n (pc := 12) dX12_isFor_12 rfl 0 rfl ?_
      obtain ⟨g12, h⟩ := gd h
      obtain ⟨a13, ha13, h⟩ := ob h
      refine r_getS (pc := 13) dX12_isFor_13 fgX12_15 rfl g12 ha13 ?_
      refine r_iload_n (pc := 16) dX12_isFor_16 rfl 2 rfl ?_
      obtain ⟨g14, h⟩ := gd h
      obtain ⟨g15, h⟩ := gd h
      refine r_baload (pc := 17) dX12_isFor_17 g14 g15 ?_
      refine r_iload_n (pc := 18) dX12_isFor_18 rfl 1 rfl ?_
      refine r_callS1 (pc := 19) (av := [vI x1]) (S := [vI (I a13 (Int32.toNatClampNeg x2))]) dX12_isFor_19 (kX12_laneOf rfl) mkX12_326 mwX12_laneOf rfl ⟨Nat.le_of_ble_eq_true rfl, Nat.le_of_ble_eq_true rfl⟩ (Nat.le_of_ble_eq_true rfl) ⟨Nat.le_refl _, Nat.le_refl _⟩ (fun b => b) ?_
      refine r_icmp_ne (pc := 22) (tgt := 29) dX12_isFor_22 rfl (fun c => ?_) (fun c => ?_)
      · have h := ie h c
        refine r_iconst (pc := 29) dX12_isFor_29 kc_iconst_0 ?_
        cases h
        exact r_zret dX12_isFor_30 (Or.inl rfl)
      · have h := it h c
        refine r_iconst (pc := 25) dX12_isFor_25 kc_iconst_1 ?_
        refine r_goto (pc := 26) (tgt := 30) dX12_isFor_26 rfl ?_
        cases h
        exact r_zret dX12_isFor_30 (Or.inr rfl)
  · have h := it h c
    refine r_iconst (pc := 4) dX12_isFor_4 kc_iconst_1 ?_
    cases h
    exact r_zret dX12_isFor_5 (Or.inr rfl)
abbrev WX12_fitted (G : Gx) (l : Launch) (σ0 : Shp) (X1 : Stt) (rv : Option SV) : Stt → Nat → List (Nat × SV) → List SV → Prop := Wm G l yX12_fitted cX12_fitted 3 (some .long) (fun _ => True) (rmx 0 0 σ0 X1.1) σ0 (Qmx G σ0 X1 rv)
def fX12_fitted  (x0 : Int32) (x1 : Int64) : (Int64) :=
  if x0 = (0 : Int32) then
    (x1 &&& (1 : Int64))
  else
  if x0 = (1 : Int32) then
    (Int32.toInt64 ((Int32.toInt8 (Int64.toInt32 x1)).toInt32))
  else
  if x0 = (2 : Int32) then
    (x1 &&& (65535 : Int64))
  else
  if x0 = (3 : Int32) then
    (Int32.toInt64 ((Int32.toInt16 (Int64.toInt32 x1)).toInt32))
  else
  if x0 = (4 : Int32) then
    (Int32.toInt64 (Int64.toInt32 x1))
  else
  if x0 = (5 : Int32) then
    x1
  else
  if x0 = (6 : Int32) then
    if (x1 &&& (2147483647 : Int64)) ≤ (2139095040 : Int64) then
      (Int32.toInt64 (Int64.toInt32 x1))
    else
      (2143289344 : Int64)
  else
  if x0 = (7 : Int32) then
    if (x1 &&& (9223372036854775807 : Int64)) ≤ (9218868437227405312 : Int64) then
      x1
    else
      (9221120237041090560 : Int64)
  else
  x1
theorem kX12_fitted {G : Gx} {l : Launch} {σ : Shp} {I : Nat → Nat → Int32} {J : Nat → Nat → Int64} {D : Nat → Nat → UInt64} {R : Nat → Nat → Option Nat} {x0 : Int32} {x1 : Int64} {r9 : Int64} (h : fX12_fitted x0 x1 = r9) : Con G l yX12_fitted cX12_fitted 3 (some .long) 0 0 [vI x0, vL x1] (σ, I, J, D, R) (σ, I, J, D, R) (some (vL r9)) := by
  unfold fX12_fitted at h
  refine Con.mk (by decide +kernel) rfl (Nat.le_of_ble_eq_true rfl) ?_
  show WX12_fitted G l σ (σ, I, J, D, R) (some (vL r9)) (σ, I, J, D, R) 0 _ []
  refine r_iload_n (pc := 0) dX12_fitted_0 rfl 0 rfl ?_
  rcases itc h with ⟨c1, h⟩ | ⟨c1, h⟩
  · refine r_tsIn (x := x0) (pc := 1) (tgt := 48) dX12_fitted_1 (by rw [c1]; decide) (by rw [c1]; decide) (by rw [c1]; rfl) rfl ?_
    refine r_lload_n (pc := 48) dX12_fitted_48 rfl 1 rfl ?_
    refine r_lconst (pc := 49) dX12_fitted_49 kc_lconst_1 ?_
    refine r_land (pc := 50) dX12_fitted_50 ?_
    subst h
    exact r_lret dX12_fitted_51
  · rcases itc h with ⟨c2, h⟩ | ⟨c2, h⟩
    · refine r_tsIn (x := x0) (pc := 1) (tgt := 52) dX12_fitted_1 (by rw [c2]; decide) (by rw [c2]; decide) (by rw [c2]; rfl) rfl ?_
      refine r_lload_n (pc := 52) dX12_fitted_52 rfl 1 rfl ?_
      refine r_l2i (pc := 53) dX12_fitted_53 ?_
      refine r_i2b (pc := 54) dX12_fitted_54 ?_
      refine r_i2l (pc := 55) dX12_fitted_55 ?_
      subst h
      exact r_lret dX12_fitted_56
    · rcases itc h with ⟨c3, h⟩ | ⟨c3, h⟩
      · refine r_tsIn (x := x0) (pc := 1) (tgt := 57) dX12_fitted_1 (by rw [c3]; decide) (by rw [c3]; decide) (by rw [c3]; rfl) rfl ?_
        refine r_lload_n (pc := 57) dX12_fitted_57 rfl 1 rfl ?_
        refine r_ldc2 (pc := 58) dX12_fitted_58 clX12_333 ?_
        refine r_land (pc := 61) dX12_fitted_61 ?_
        subst h
        exact r_lret dX12_fitted_62
      · rcases itc h with ⟨c4, h⟩ | ⟨c4, h⟩
        · refine r_tsIn (x := x0) (pc := 1) (tgt := 63) dX12_fitted_1 (by rw [c4]; decide) (by rw [c4]; decide) (by rw [c4]; rfl) rfl ?_
          refine r_lload_n (pc := 63) dX12_fitted_63 rfl 1 rfl ?_
          refine r_l2i (pc := 64) dX12_fitted_64 ?_
          refine r_i2s (pc := 65) dX12_fitted_65 ?_
          refine r_i2l (pc := 66) dX12_fitted_66 ?_
          subst h
          exact r_lret dX12_fitted_67
        · rcases itc h with ⟨c5, h⟩ | ⟨c5, h⟩
          · refine r_tsIn (x := x0) (pc := 1) (tgt := 68) dX12_fitted_1 (by rw [c5]; decide) (by rw [c5]; decide) (by rw [c5]; rfl) rfl ?_
            refine r_lload_n (pc := 68) dX12_fitted_68 rfl 1 rfl ?_
            refine r_l2i (pc := 69) dX12_fitted_69 ?_
            refine r_i2l (pc := 70) dX12_fitted_70 ?_
            subst h
            exact r_lret dX12_fitted_71
          · rcases itc h with ⟨c6, h⟩ | ⟨c6, h⟩
            · refine r_tsIn (x := x0) (pc := 1) (tgt := 114) dX12_fitted_1 (by rw [c6]; decide) (by rw [c6]; decide) (by rw [c6]; rfl) rfl ?_
              refine r_lload_n (pc := 114) dX12_fitted_114 rfl 1 rfl ?_
              subst h
              exact r_lret dX12_fitted_115
            · rcases itc h with ⟨c7, h⟩ | ⟨c7, h⟩
              · refine r_tsIn (x := x0) (pc := 1) (tgt := 72) dX12_fitted_1 (by rw [c7]; decide) (by rw [c7]; decide) (by rw [c7]; rfl) rfl ?_
                refine r_lload_n (pc := 72) dX12_fitted_72 rfl 1 rfl ?_
                refine r_ldc2 (pc := 73) dX12_fitted_73 clX12_335 ?_
                refine r_land (pc := 76) dX12_fitted_76 ?_
                refine r_ldc2 (pc := 77) dX12_fitted_77 clX12_337 ?_
                refine r_lcmp (pc := 80) dX12_fitted_80 ?_
                refine r_if_le (pc := 81) (tgt := 90) dX12_fitted_81 rfl (fun c => ?_) (fun c => ?_)
                · have h := it h (lgc_le.mp c)
                  refine r_lload_n (pc := 90) dX12_fitted_90 rfl 1 rfl ?_
                  refine r_l2i (pc := 91) dX12_fitted_91 ?_
                  refine r_i2l (pc := 92) dX12_fitted_92 ?_
                  subst h
                  exact r_lret dX12_fitted_93
                · have h := ie h (fun q => c (lgc_le.mpr q))
                  refine r_ldc2 (pc := 84) dX12_fitted_84 clX12_339 ?_
                  refine r_goto (pc := 87) (tgt := 93) dX12_fitted_87 rfl ?_
                  subst h
                  exact r_lret dX12_fitted_93
              · rcases itc h with ⟨c8, h⟩ | ⟨c8, h⟩
                · refine r_tsIn (x := x0) (pc := 1) (tgt := 94) dX12_fitted_1 (by rw [c8]; decide) (by rw [c8]; decide) (by rw [c8]; rfl) rfl ?_
                  refine r_lload_n (pc := 94) dX12_fitted_94 rfl 1 rfl ?_
                  refine r_ldc2 (pc := 95) dX12_fitted_95 clX12_341 ?_
                  refine r_land (pc := 98) dX12_fitted_98 ?_
                  refine r_ldc2 (pc := 99) dX12_fitted_99 clX12_343 ?_
                  refine r_lcmp (pc := 102) dX12_fitted_102 ?_
                  refine r_if_le (pc := 103) (tgt := 112) dX12_fitted_103 rfl (fun c => ?_) (fun c => ?_)
                  · have h := it h (lgc_le.mp c)
                    refine r_lload_n (pc := 112) dX12_fitted_112 rfl 1 rfl ?_
                    subst h
                    exact r_lret dX12_fitted_113
                  · have h := ie h (fun q => c (lgc_le.mpr q))
                    refine r_ldc2 (pc := 106) dX12_fitted_106 clX12_172 ?_
                    refine r_goto (pc := 109) (tgt := 113) dX12_fitted_109 rfl ?_
                    subst h
                    exact r_lret dX12_fitted_113
                · refine r_tsOut (x := x0) (pc := 1) (tgt := 114) dX12_fitted_1 (by have ec1 := i32n c1 (k := 0) rfl; have ec2 := i32n c2 (k := 1) rfl; have ec3 := i32n c3 (k := 2) rfl; have ec4 := i32n c4 (k := 3) rfl; have ec5 := i32n c5 (k := 4) rfl; have ec6 := i32n c6 (k := 5) rfl; have ec7 := i32n c7 (k := 6) rfl; have ec8 := i32n c8 (k := 7) rfl; omega) rfl ?_
                  refine r_lload_n (pc := 114) dX12_fitted_114 rfl 1 rfl ?_
                  subst h
                  exact r_lret dX12_fitted_115
abbrev WX12_row (G : Gx) (l : Launch) (σ0 : Shp) (X1 : Stt) (rv : Option SV) : Stt → Nat → List (Nat × SV) → List SV → Prop := Wm G l yX12_row cX12_row 4 (some .int) (fun _ => True) (rmx 2 45 σ0 X1.1) σ0 (Qmx G σ0 X1 rv)
def fX12_row (σ : Shp) (I : Nat → Nat → Int32) (R : Nat → Nat → Option Nat) (t : Nat) (x1 : Int32) (x2 : Int32) (x3 : Int32) : Option ((Nat → Nat → Int32) × (Int32)) :=
  if (fX12_isBin x1) = 0 then
    some (I, (-2 : Int32))
  else
    if (fX12_in x2 (0 : Int32) (7 : Int32)) = 0 then
      some (I, (-2 : Int32))
    else
      if x3 ≤ (40 : Int32) then
        if kdx σ t = 13 then
        (fX12_isFull σ I t).bind fun r2 =>
        if r2 = 0 then
          if 0 ≤ x3 then
            ((R t 3) : Option Nat).bind fun a4 =>
            (fX12_newRow σ I R t x2 x3).bind fun (I5, r6) =>
            if kdx σ a4 = 20 then
            if ¬ (x1 < 0 ∨ lnx σ a4 ≤ Int32.toNatClampNeg x1) then
            let I10 := u2 I5 a4 (Int32.toNatClampNeg x1) r6
            some (I10, (1 : Int32))
            else none
            else none
          else
            (fX12_no σ I t (3 : Int32)).bind fun (I11, r12) =>
            some (I11, r12)
        else
          some (I, (-4 : Int32))
        else none
      else
        some (I, (-2 : Int32))
theorem kX12_row {G : Gx} {l : Launch} {σ : Shp} {I : Nat → Nat → Int32} {J : Nat → Nat → Int64} {D : Nat → Nat → UInt64} {R : Nat → Nat → Option Nat} {t : Nat} {x1 : Int32} {x2 : Int32} {x3 : Int32} {I9 : Nat → Nat → Int32} {r9 : Int32} (h : fX12_row σ I R t x1 x2 x3 = some (I9, r9)) : Con G l yX12_row cX12_row 4 (some .int) 2 45 [vR (some t), vI x1, vI x2, vI x3] (σ, I, J, D, R) (σ, I9, J, D, R) (some (vI r9)) := by
  unfold fX12_row at h
  refine Con.mk (by decide +kernel) rfl (Nat.le_of_ble_eq_true rfl) ?_
  show WX12_row G l σ (σ, I9, J, D, R) (some (vI r9)) (σ, I, J, D, R) 0 _ []
  refine r_iload_n (pc := 0) dX12_row_0 rfl 1 rfl ?_
  refine r_callS1 (pc := 1) (av := [vI x1]) (S := []) dX12_row_1 (kX12_isBin rfl) mkX12_345 mwX12_isBin rfl ⟨Nat.le_of_ble_eq_true rfl, Nat.le_of_ble_eq_true rfl⟩ (Nat.le_of_ble_eq_true rfl) ⟨Nat.le_refl _, Nat.le_refl _⟩ (fun b => b) ?_
  refine r_if_eq (pc := 4) (tgt := 23) dX12_row_4 rfl (fun c => ?_) (fun c => ?_)
  · have h := it h c
    refine r_bipush (pc := 23) dX12_row_23 kc_bipush_m2 ?_
    cases h
    exact r_iret dX12_row_25
  · have h := ie h c
    refine r_iload_n (pc := 7) dX12_row_7 rfl 2 rfl ?_
    refine r_iconst (pc := 8) dX12_row_8 kc_iconst_0 ?_
    refine r_bipush (pc := 9) dX12_row_9 kc_bipush_7 ?_
    refine r_callS1 (pc := 11) (av := [vI x2, vI (0 : Int32), vI (7 : Int32)]) (S := []) dX12_row_11 (kX12_in rfl) mkX12_322 mwX12_in rfl ⟨Nat.le_of_ble_eq_true rfl, Nat.le_of_ble_eq_true rfl⟩ (Nat.le_of_ble_eq_true rfl) ⟨Nat.le_refl _, Nat.le_refl _⟩ (fun b => b) ?_
    refine r_if_eq (pc := 14) (tgt := 23) dX12_row_14 rfl (fun c => ?_) (fun c => ?_)
    · have h := it h c
      refine r_bipush (pc := 23) dX12_row_23 kc_bipush_m2 ?_
      cases h
      exact r_iret dX12_row_25
    · have h := ie h c
      refine r_iload_n (pc := 17) dX12_row_17 rfl 3 rfl ?_
      refine r_bipush (pc := 18) dX12_row_18 kc_bipush_40 ?_
      refine r_icmp_le (pc := 20) (tgt := 26) dX12_row_20 rfl (fun c => ?_) (fun c => ?_)
      · have h := it h c
        refine r_aload_n (pc := 26) dX12_row_26 rfl 0 rfl ?_
        obtain ⟨g1, h⟩ := gd h
        obtain ⟨r2, hc3, h⟩ := ob h
        refine r_callV1 (pc := 27) (av := []) (S := []) dX12_row_27 (kX12_isFull hc3) g1 rfl mkX12_349 mwX12_isFull rfl ⟨Nat.le_of_ble_eq_true rfl, Nat.le_of_ble_eq_true rfl⟩ (Nat.le_of_ble_eq_true rfl) ⟨Nat.le_refl _, Nat.le_refl _⟩ (fun b => b) ?_
        refine r_if_eq (pc := 30) (tgt := 36) dX12_row_30 rfl (fun c => ?_) (fun c => ?_)
        · have h := it h c
          refine r_iload_n (pc := 36) dX12_row_36 rfl 3 rfl ?_
          refine r_ifge (pc := 37) (tgt := 46) dX12_row_37 rfl (fun c => ?_) (fun c => ?_)
          · have h := it h c
            refine r_aload_n (pc := 46) dX12_row_46 rfl 0 rfl ?_
            obtain ⟨a4, ha4, h⟩ := ob h
            refine r_getS (pc := 47) dX12_row_47 fgX12_9 rfl g1 ha4 ?_
            refine r_iload_n (pc := 50) dX12_row_50 rfl 1 rfl ?_
            refine r_aload_n (pc := 51) dX12_row_51 rfl 0 rfl ?_
            refine r_iload_n (pc := 52) dX12_row_52 rfl 2 rfl ?_
            refine r_iload_n (pc := 53) dX12_row_53 rfl 3 rfl ?_
            obtain ⟨⟨I5, r6⟩, hc7, h⟩ := ob h
            refine r_callV1 (pc := 54) (av := [vI x2, vI x3]) (S := [vI x1, vR (some a4)]) dX12_row_54 (kX12_newRow hc7) g1 rfl mkX12_353 mwX12_newRow rfl ⟨Nat.le_of_ble_eq_true rfl, Nat.le_of_ble_eq_true rfl⟩ (Nat.le_of_ble_eq_true rfl) ⟨Nat.le_refl _, Nat.le_refl _⟩ (fun b => b) ?_
            obtain ⟨g8, h⟩ := gd h
            obtain ⟨g9, h⟩ := gd h
            refine r_iastore (pc := 57) dX12_row_57 g8 g9 ?_
            refine r_iconst (pc := 58) dX12_row_58 kc_iconst_1 ?_
            cases h
            exact r_iret dX12_row_59
          · have h := ie h c
            refine r_aload_n (pc := 40) dX12_row_40 rfl 0 rfl ?_
            refine r_iconst (pc := 41) dX12_row_41 kc_iconst_3 ?_
            obtain ⟨⟨I11, r12⟩, hc13, h⟩ := ob h
            refine r_callV1 (pc := 42) (av := [vI (3 : Int32)]) (S := []) dX12_row_42 (kX12_no hc13) g1 rfl mkX12_308 mwX12_no rfl ⟨Nat.le_of_ble_eq_true rfl, Nat.le_of_ble_eq_true rfl⟩ (Nat.le_of_ble_eq_true rfl) ⟨Nat.le_refl _, Nat.le_refl _⟩ (fun b => b) ?_
            cases h
            exact r_iret dX12_row_45
        · have h := ie h c
          refine r_bipush (pc := 33) dX12_row_33 kc_bipush_m4 ?_
          cases h
          exact r_iret dX12_row_35
      · have h := ie h c
        refine r_bipush (pc := 23) dX12_row_23 kc_bipush_m2 ?_
        cases h
        exact r_iret dX12_row_25
abbrev WX12_grid (G : Gx) (l : Launch) (σ0 : Shp) (X1 : Stt) (rv : Option SV) : Stt → Nat → List (Nat × SV) → List SV → Prop := Wm G l yX12_grid cX12_grid 8 (some .int) (fun _ => True) (rmx 2 45 σ0 X1.1) σ0 (Qmx G σ0 X1 rv)
def fX12_grid_l75  (σ : Shp) (R : Nat → Nat → Option Nat) (t : Nat) : Nat → (Nat → Nat → Int32) → (Int32) → (Int32) → (Int32) → (Int32) → (Int32) → (Int32) → (Int32) → Option ((Nat → Nat → Int32) × (Int32))
  | 0, _, _, _, _, _, _, _, _ => none
  | n + 1, I, x1, x2, x3, x4, x5, x6, x7 =>
    if x3 ≤ x7 then
      if kdx σ t = 13 then
      ((R t 3) : Option Nat).bind fun a11 =>
      if kdx σ a11 = 20 then
      if ¬ (x1 < 0 ∨ lnx σ a11 ≤ Int32.toNatClampNeg x1) then
      let I14 := u2 I a11 (Int32.toNatClampNeg x1) x6
      some (I14, (1 : Int32))
      else none
      else none
      else none
    else
      if x5 = 0 then
        if kdx σ t = 13 then
        ((R t 10) : Option Nat).bind fun a21 =>
        ((R t 6) : Option Nat).bind fun a22 =>
        if kdx σ a22 = 20 then
        if ¬ (x6 < 0 ∨ lnx σ a22 ≤ Int32.toNatClampNeg x6) then
        (fX12_newRow σ I R t (fX12_laneOf x2) x4).bind fun (I25, r26) =>
        if kdx σ a21 = 23 then
        if ¬ (((I a22 (Int32.toNatClampNeg x6)) + x7) < 0 ∨ lnx σ a21 ≤ Int32.toNatClampNeg ((I a22 (Int32.toNatClampNeg x6)) + x7)) then
        let I30 := u2 I25 a21 (Int32.toNatClampNeg ((I a22 (Int32.toNatClampNeg x6)) + x7)) ((Int32.toInt16 ((Int32.toInt16 r26).toInt32)).toInt32)
        let v31 := x7 + (1 : Int32)
        fX12_grid_l75 σ R t n I30 x1 x2 x3 x4 x5 x6 v31
        else none
        else none
        else none
        else none
        else none
      else
        if kdx σ t = 13 then
        ((R t 3) : Option Nat).bind fun a16 =>
        if kdx σ a16 = 20 then
        if ¬ (x1 < 0 ∨ lnx σ a16 ≤ Int32.toNatClampNeg x1) then
        let I19 := u2 I a16 (Int32.toNatClampNeg x1) x6
        some (I19, (1 : Int32))
        else none
        else none
        else none
theorem wX12_grid_l75 {G : Gx} {l : Launch} {σ : Shp} {J : Nat → Nat → Int64} {D : Nat → Nat → UInt64} {R : Nat → Nat → Option Nat} {t : Nat} {I9 : Nat → Nat → Int32} {r9 : Int32} : ∀ (n : Nat) (I : Nat → Nat → Int32) (x1 : Int32) (x2 : Int32) (x3 : Int32) (x4 : Int32) (x5 : Int32) (x6 : Int32) (x7 : Int32), fX12_grid_l75 σ R t n I x1 x2 x3 x4 x5 x6 x7 = some (I9, r9) → WX12_grid G l σ (σ, I9, J, D, R) (some (vI r9)) (σ, I, J, D, R) 75 [(0, vR (some t)), (1, vI x1), (2, vI x2), (3, vI x3), (4, vI x4), (5, vI x5), (6, vI x6), (7, vI x7)] [] := by
  intro n
  induction n with
  | zero =>
    intro I x1 x2 x3 x4 x5 x6 x7 h
    have h : none = some _ := h
    cases h
  | succ n ih =>
    intro I x1 x2 x3 x4 x5 x6 x7 h
    rw [fX12_grid_l75] at h
    refine r_iload (pc := 75) dX12_grid_75 7 rfl ?_
    refine r_iload_n (pc := 77) dX12_grid_77 rfl 3 rfl ?_
    refine r_icmp_ge (pc := 78) (tgt := 118) dX12_grid_78 rfl (fun c => ?_) (fun c => ?_)
    · have h := it h c
      refine r_aload_n (pc := 118) dX12_grid_118 rfl 0 rfl ?_
      obtain ⟨g10, h⟩ := gd h
      obtain ⟨a11, ha11, h⟩ := ob h
      refine r_getS (pc := 119) dX12_grid_119 fgX12_9 rfl g10 ha11 ?_
      refine r_iload_n (pc := 122) dX12_grid_122 rfl 1 rfl ?_
      refine r_iload (pc := 123) dX12_grid_123 6 rfl ?_
      obtain ⟨g12, h⟩ := gd h
      obtain ⟨g13, h⟩ := gd h
      refine r_iastore (pc := 125) dX12_grid_125 g12 g13 ?_
      refine r_iconst (pc := 126) dX12_grid_126 kc_iconst_1 ?_
      cases h
      exact r_iret dX12_grid_127
    · have h := ie h c
      refine r_iload (pc := 81) dX12_grid_81 5 rfl ?_
      refine r_ifne (pc := 83) (tgt := 118) dX12_grid_83 rfl (fun c => ?_) (fun c => ?_)
      · have h := ie h c
        refine r_aload_n (pc := 118) dX12_grid_118 rfl 0 rfl ?_
        obtain ⟨g15, h⟩ := gd h
        obtain ⟨a16, ha16, h⟩ := ob h
        refine r_getS (pc := 119) dX12_grid_119 fgX12_9 rfl g15 ha16 ?_
        refine r_iload_n (pc := 122) dX12_grid_122 rfl 1 rfl ?_
        refine r_iload (pc := 123) dX12_grid_123 6 rfl ?_
        obtain ⟨g17, h⟩ := gd h
        obtain ⟨g18, h⟩ := gd h
        refine r_iastore (pc := 125) dX12_grid_125 g17 g18 ?_
        refine r_iconst (pc := 126) dX12_grid_126 kc_iconst_1 ?_
        cases h
        exact r_iret dX12_grid_127
      · have h := it h c
        refine r_aload_n (pc := 86) dX12_grid_86 rfl 0 rfl ?_
        obtain ⟨g20, h⟩ := gd h
        obtain ⟨a21, ha21, h⟩ := ob h
        refine r_getS (pc := 87) dX12_grid_87 fgX12_31 rfl g20 ha21 ?_
        refine r_aload_n (pc := 90) dX12_grid_90 rfl 0 rfl ?_
        obtain ⟨a22, ha22, h⟩ := ob h
        refine r_getS (pc := 91) dX12_grid_91 fgX12_22 rfl g20 ha22 ?_
        refine r_iload (pc := 94) dX12_grid_94 6 rfl ?_
        obtain ⟨g23, h⟩ := gd h
        obtain ⟨g24, h⟩ := gd h
        refine r_iaload (pc := 96) dX12_grid_96 g23 g24 ?_
        refine r_iload (pc := 97) dX12_grid_97 7 rfl ?_
        refine r_iadd (pc := 99) dX12_grid_99 ?_
        refine r_aload_n (pc := 100) dX12_grid_100 rfl 0 rfl ?_
        refine r_iload_n (pc := 101) dX12_grid_101 rfl 2 rfl ?_
        refine r_callS1 (pc := 102) (av := [vI x2]) (S := [vR (some t), vI ((I a22 (Int32.toNatClampNeg x6)) + x7), vR (some a21)]) dX12_grid_102 (kX12_laneOf rfl) mkX12_326 mwX12_laneOf rfl ⟨Nat.le_of_ble_eq_true rfl, Nat.le_of_ble_eq_true rfl⟩ (Nat.le_of_ble_eq_true rfl) ⟨Nat.le_refl _, Nat.le_refl _⟩ (fun b => b) ?_
        refine r_iload (pc := 105) dX12_grid_105 4 rfl ?_
        obtain ⟨⟨I25, r26⟩, hc27, h⟩ := ob h
        refine r_callV1 (pc := 107) (av := [vI (fX12_laneOf x2), vI x4]) (S := [vI ((I a22 (Int32.toNatClampNeg x6)) + x7), vR (some a21)]) dX12_grid_107 (kX12_newRow hc27) g20 rfl mkX12_353 mwX12_newRow rfl ⟨Nat.le_of_ble_eq_true rfl, Nat.le_of_ble_eq_true rfl⟩ (Nat.le_of_ble_eq_true rfl) ⟨Nat.le_refl _, Nat.le_refl _⟩ (fun b => b) ?_
        refine r_i2s (pc := 110) dX12_grid_110 ?_
        obtain ⟨g28, h⟩ := gd h
        obtain ⟨g29, h⟩ := gd h
        refine r_sastore (pc := 111) dX12_grid_111 g28 g29 ?_
        refine r_iinc (pc := 112) (v := (x7 + (1 : Int32))) (L' := [(7, vI (x7 + (1 : Int32))), (0, vR (some t)), (1, vI x1), (2, vI x2), (3, vI x3), (4, vI x4), (5, vI x5), (6, vI x6)]) dX12_grid_112 7 rfl (kc_inc_1 _) (by decide) rfl ?_
        refine r_goto (pc := 115) (tgt := 75) dX12_grid_115 rfl ?_
        refine r_sub [1, 2, 3, 4, 5, 6, 7, 0] rfl ?_
        exact ih _ _ _ _ _ _ _ _ h
def fX12_grid (σ : Shp) (I : Nat → Nat → Int32) (R : Nat → Nat → Option Nat) (t : Nat) (x1 : Int32) (x2 : Int32) (x3 : Int32) (x4 : Int32) (x5 : Int32) : Option ((Nat → Nat → Int32) × (Int32)) :=
  if (fX12_isBin x1) = 0 then
    some (I, (-2 : Int32))
  else
    if (fX12_in x2 (8 : Int32) (10 : Int32)) = 0 then
      some (I, (-2 : Int32))
    else
      if (10 : Int32) < x3 then
        some (I, (-2 : Int32))
      else
        if x4 ≤ (40 : Int32) then
          if kdx σ t = 13 then
          (fX12_isFull σ I t).bind fun r2 =>
          if r2 = 0 then
            if x3 < 0 then
              (fX12_no σ I t (3 : Int32)).bind fun (I4, r5) =>
              some (I4, r5)
            else
              if x5 = 0 then
                if 0 ≤ x4 then
                  (fX12_newPlaces σ I R t x2 x3).bind fun (I32, r33) =>
                  fX12_grid_l75 σ R t FUx I32 x1 x2 x3 x4 x5 r33 (0 : Int32)
                else
                  (fX12_no σ I t (3 : Int32)).bind fun (I35, r36) =>
                  some (I35, r36)
              else
                (fX12_newPlaces σ I R t x2 x3).bind fun (I7, r8) =>
                fX12_grid_l75 σ R t FUx I7 x1 x2 x3 x4 x5 r8 (0 : Int32)
          else
            some (I, (-4 : Int32))
          else none
        else
          some (I, (-2 : Int32))
theorem kX12_grid {G : Gx} {l : Launch} {σ : Shp} {I : Nat → Nat → Int32} {J : Nat → Nat → Int64} {D : Nat → Nat → UInt64} {R : Nat → Nat → Option Nat} {t : Nat} {x1 : Int32} {x2 : Int32} {x3 : Int32} {x4 : Int32} {x5 : Int32} {I9 : Nat → Nat → Int32} {r9 : Int32} (h : fX12_grid σ I R t x1 x2 x3 x4 x5 = some (I9, r9)) : Con G l yX12_grid cX12_grid 8 (some .int) 2 45 [vR (some t), vI x1, vI x2, vI x3, vI x4, vI x5] (σ, I, J, D, R) (σ, I9, J, D, R) (some (vI r9)) := by
  unfold fX12_grid at h
  refine Con.mk (by decide +kernel) rfl (Nat.le_of_ble_eq_true rfl) ?_
  show WX12_grid G l σ (σ, I9, J, D, R) (some (vI r9)) (σ, I, J, D, R) 0 _ []
  refine r_iload_n (pc := 0) dX12_grid_0 rfl 1 rfl ?_
  refine r_callS1 (pc := 1) (av := [vI x1]) (S := []) dX12_grid_1 (kX12_isBin rfl) mkX12_345 mwX12_isBin rfl ⟨Nat.le_of_ble_eq_true rfl, Nat.le_of_ble_eq_true rfl⟩ (Nat.le_of_ble_eq_true rfl) ⟨Nat.le_refl _, Nat.le_refl _⟩ (fun b => b) ?_
  refine r_if_eq (pc := 4) (tgt := 31) dX12_grid_4 rfl (fun c => ?_) (fun c => ?_)
  · have h := it h c
    refine r_bipush (pc := 31) dX12_grid_31 kc_bipush_m2 ?_
    cases h
    exact r_iret dX12_grid_33
  · have h := ie h c
    refine r_iload_n (pc := 7) dX12_grid_7 rfl 2 rfl ?_
    refine r_bipush (pc := 8) dX12_grid_8 kc_bipush_8 ?_
    refine r_bipush (pc := 10) dX12_grid_10 kc_bipush_10 ?_
    refine r_callS1 (pc := 12) (av := [vI x2, vI (8 : Int32), vI (10 : Int32)]) (S := []) dX12_grid_12 (kX12_in rfl) mkX12_322 mwX12_in rfl ⟨Nat.le_of_ble_eq_true rfl, Nat.le_of_ble_eq_true rfl⟩ (Nat.le_of_ble_eq_true rfl) ⟨Nat.le_refl _, Nat.le_refl _⟩ (fun b => b) ?_
    refine r_if_eq (pc := 15) (tgt := 31) dX12_grid_15 rfl (fun c => ?_) (fun c => ?_)
    · have h := it h c
      refine r_bipush (pc := 31) dX12_grid_31 kc_bipush_m2 ?_
      cases h
      exact r_iret dX12_grid_33
    · have h := ie h c
      refine r_iload_n (pc := 18) dX12_grid_18 rfl 3 rfl ?_
      refine r_bipush (pc := 19) dX12_grid_19 kc_bipush_10 ?_
      refine r_icmp_gt (pc := 21) (tgt := 31) dX12_grid_21 rfl (fun c => ?_) (fun c => ?_)
      · have h := it h c
        refine r_bipush (pc := 31) dX12_grid_31 kc_bipush_m2 ?_
        cases h
        exact r_iret dX12_grid_33
      · have h := ie h c
        refine r_iload (pc := 24) dX12_grid_24 4 rfl ?_
        refine r_bipush (pc := 26) dX12_grid_26 kc_bipush_40 ?_
        refine r_icmp_le (pc := 28) (tgt := 34) dX12_grid_28 rfl (fun c => ?_) (fun c => ?_)
        · have h := it h c
          refine r_aload_n (pc := 34) dX12_grid_34 rfl 0 rfl ?_
          obtain ⟨g1, h⟩ := gd h
          obtain ⟨r2, hc3, h⟩ := ob h
          refine r_callV1 (pc := 35) (av := []) (S := []) dX12_grid_35 (kX12_isFull hc3) g1 rfl mkX12_349 mwX12_isFull rfl ⟨Nat.le_of_ble_eq_true rfl, Nat.le_of_ble_eq_true rfl⟩ (Nat.le_of_ble_eq_true rfl) ⟨Nat.le_refl _, Nat.le_refl _⟩ (fun b => b) ?_
          refine r_if_eq (pc := 38) (tgt := 44) dX12_grid_38 rfl (fun c => ?_) (fun c => ?_)
          · have h := it h c
            refine r_iload_n (pc := 44) dX12_grid_44 rfl 3 rfl ?_
            refine r_if_lt (pc := 45) (tgt := 58) dX12_grid_45 rfl (fun c => ?_) (fun c => ?_)
            · have h := it h c
              refine r_aload_n (pc := 58) dX12_grid_58 rfl 0 rfl ?_
              refine r_iconst (pc := 59) dX12_grid_59 kc_iconst_3 ?_
              obtain ⟨⟨I4, r5⟩, hc6, h⟩ := ob h
              refine r_callV1 (pc := 60) (av := [vI (3 : Int32)]) (S := []) dX12_grid_60 (kX12_no hc6) g1 rfl mkX12_308 mwX12_no rfl ⟨Nat.le_of_ble_eq_true rfl, Nat.le_of_ble_eq_true rfl⟩ (Nat.le_of_ble_eq_true rfl) ⟨Nat.le_refl _, Nat.le_refl _⟩ (fun b => b) ?_
              cases h
              exact r_iret dX12_grid_63
            · have h := ie h c
              refine r_iload (pc := 48) dX12_grid_48 5 rfl ?_
              refine r_ifne (pc := 50) (tgt := 64) dX12_grid_50 rfl (fun c => ?_) (fun c => ?_)
              · have h := ie h c
                refine r_aload_n (pc := 64) dX12_grid_64 rfl 0 rfl ?_
                refine r_iload_n (pc := 65) dX12_grid_65 rfl 2 rfl ?_
                refine r_iload_n (pc := 66) dX12_grid_66 rfl 3 rfl ?_
                obtain ⟨⟨I7, r8⟩, hc9, h⟩ := ob h
                refine r_callV1 (pc := 67) (av := [vI x2, vI x3]) (S := []) dX12_grid_67 (kX12_newPlaces hc9) g1 rfl mkX12_356 mwX12_newPlaces rfl ⟨Nat.le_of_ble_eq_true rfl, Nat.le_of_ble_eq_true rfl⟩ (Nat.le_of_ble_eq_true rfl) ⟨Nat.le_refl _, Nat.le_refl _⟩ (fun b => b) ?_
                refine r_istore (pc := 70) (L' := [(6, vI r8), (0, vR (some t)), (1, vI x1), (2, vI x2), (3, vI x3), (4, vI x4), (5, vI x5)]) dX12_grid_70 (by decide) rfl ?_
                refine r_iconst (pc := 72) dX12_grid_72 kc_iconst_0 ?_
                refine r_istore (pc := 73) (L' := [(7, vI (0 : Int32)), (6, vI r8), (0, vR (some t)), (1, vI x1), (2, vI x2), (3, vI x3), (4, vI x4), (5, vI x5)]) dX12_grid_73 (by decide) rfl ?_
                refine r_sub [2, 3, 4, 5, 6, 7, 1, 0] rfl ?_
                exact wX12_grid_l75 _ _ _ _ _ _ _ _ _ h
              · have h := it h c
                refine r_iload (pc := 53) dX12_grid_53 4 rfl ?_
                refine r_ifge (pc := 55) (tgt := 64) dX12_grid_55 rfl (fun c => ?_) (fun c => ?_)
                · have h := it h c
                  refine r_aload_n (pc := 64) dX12_grid_64 rfl 0 rfl ?_
                  refine r_iload_n (pc := 65) dX12_grid_65 rfl 2 rfl ?_
                  refine r_iload_n (pc := 66) dX12_grid_66 rfl 3 rfl ?_
                  obtain ⟨⟨I32, r33⟩, hc34, h⟩ := ob h
                  refine r_callV1 (pc := 67) (av := [vI x2, vI x3]) (S := []) dX12_grid_67 (kX12_newPlaces hc34) g1 rfl mkX12_356 mwX12_newPlaces rfl ⟨Nat.le_of_ble_eq_true rfl, Nat.le_of_ble_eq_true rfl⟩ (Nat.le_of_ble_eq_true rfl) ⟨Nat.le_refl _, Nat.le_refl _⟩ (fun b => b) ?_
                  refine r_istore (pc := 70) (L' := [(6, vI r33), (0, vR (some t)), (1, vI x1), (2, vI x2), (3, vI x3), (4, vI x4), (5, vI x5)]) dX12_grid_70 (by decide) rfl ?_
                  refine r_iconst (pc := 72) dX12_grid_72 kc_iconst_0 ?_
                  refine r_istore (pc := 73) (L' := [(7, vI (0 : Int32)), (6, vI r33), (0, vR (some t)), (1, vI x1), (2, vI x2), (3, vI x3), (4, vI x4), (5, vI x5)]) dX12_grid_73 (by decide) rfl ?_
                  refine r_sub [2, 3, 4, 5, 6, 7, 1, 0] rfl ?_
                  exact wX12_grid_l75 _ _ _ _ _ _ _ _ _ h
                · have h := ie h c
                  refine r_aload_n (pc := 58) dX12_grid_58 rfl 0 rfl ?_
                  refine r_iconst (pc := 59) dX12_grid_59 kc_iconst_3 ?_
                  obtain ⟨⟨I35, r36⟩, hc37, h⟩ := ob h
                  refine r_callV1 (pc := 60) (av := [vI (3 : Int32)]) (S := []) dX12_grid_60 (kX12_no hc37) g1 rfl mkX12_308 mwX12_no rfl ⟨Nat.le_of_ble_eq_true rfl, Nat.le_of_ble_eq_true rfl⟩ (Nat.le_of_ble_eq_true rfl) ⟨Nat.le_refl _, Nat.le_refl _⟩ (fun b => b) ?_
                  cases h
                  exact r_iret dX12_grid_63
          · have h := ie h c
            refine r_bipush (pc := 41) dX12_grid_41 kc_bipush_m4 ?_
            cases h
            exact r_iret dX12_grid_43
        · have h := ie h c
          refine r_bipush (pc := 31) dX12_grid_31 kc_bipush_m2 ?_
          cases h
          exact r_iret dX12_grid_33
abbrev WX12_hollow (G : Gx) (l : Launch) (σ0 : Shp) (X1 : Stt) (rv : Option SV) : Stt → Nat → List (Nat × SV) → List SV → Prop := Wm G l yX12_hollow cX12_hollow 5 (some .int) (fun _ => True) (rmx 2 45 σ0 X1.1) σ0 (Qmx G σ0 X1 rv)
def fX12_hollow (σ : Shp) (I : Nat → Nat → Int32) (R : Nat → Nat → Option Nat) (t : Nat) (x1 : Int32) (x2 : Int32) (x3 : Int32) (x4 : Int32) : Option ((Nat → Nat → Int32) × (Int32)) :=
  if (fX12_isBin x1) = 0 then
    some (I, (-2 : Int32))
  else
    if x3 ≤ x4 then
      if kdx σ t = 13 then
      (fX12_isFull σ I t).bind fun r2 =>
      if r2 = 0 then
        if 0 ≤ x3 then
          ((R t 3) : Option Nat).bind fun a4 =>
          (fX12_newPlaces σ I R t x2 x3).bind fun (I5, r6) =>
          if kdx σ a4 = 20 then
          if ¬ (x1 < 0 ∨ lnx σ a4 ≤ Int32.toNatClampNeg x1) then
          let I10 := u2 I5 a4 (Int32.toNatClampNeg x1) r6
          some (I10, (1 : Int32))
          else none
          else none
        else
          (fX12_no σ I t (3 : Int32)).bind fun (I11, r12) =>
          some (I11, r12)
      else
        some (I, (-4 : Int32))
      else none
    else
      some (I, (-2 : Int32))
theorem kX12_hollow {G : Gx} {l : Launch} {σ : Shp} {I : Nat → Nat → Int32} {J : Nat → Nat → Int64} {D : Nat → Nat → UInt64} {R : Nat → Nat → Option Nat} {t : Nat} {x1 : Int32} {x2 : Int32} {x3 : Int32} {x4 : Int32} {I9 : Nat → Nat → Int32} {r9 : Int32} (h : fX12_hollow σ I R t x1 x2 x3 x4 = some (I9, r9)) : Con G l yX12_hollow cX12_hollow 5 (some .int) 2 45 [vR (some t), vI x1, vI x2, vI x3, vI x4] (σ, I, J, D, R) (σ, I9, J, D, R) (some (vI r9)) := by
  unfold fX12_hollow at h
  refine Con.mk (by decide +kernel) rfl (Nat.le_of_ble_eq_true rfl) ?_
  show WX12_hollow G l σ (σ, I9, J, D, R) (some (vI r9)) (σ, I, J, D, R) 0 _ []
  refine r_iload_n (pc := 0) dX12_hollow_0 rfl 1 rfl ?_
  refine r_callS1 (pc := 1) (av := [vI x1]) (S := []) dX12_hollow_1 (kX12_isBin rfl) mkX12_345 mwX12_isBin rfl ⟨Nat.le_of_ble_eq_true rfl, Nat.le_of_ble_eq_true rfl⟩ (Nat.le_of_ble_eq_true rfl) ⟨Nat.le_refl _, Nat.le_refl _⟩ (fun b => b) ?_
  refine r_if_eq (pc := 4) (tgt := 13) dX12_hollow_4 rfl (fun c => ?_) (fun c => ?_)
  · have h := it h c
    refine r_bipush (pc := 13) dX12_hollow_13 kc_bipush_m2 ?_
    cases h
    exact r_iret dX12_hollow_15
  · have h := ie h c
    refine r_iload_n (pc := 7) dX12_hollow_7 rfl 3 rfl ?_
    refine r_iload (pc := 8) dX12_hollow_8 4 rfl ?_
    refine r_icmp_le (pc := 10) (tgt := 16) dX12_hollow_10 rfl (fun c => ?_) (fun c => ?_)
    · have h := it h c
      refine r_aload_n (pc := 16) dX12_hollow_16 rfl 0 rfl ?_
      obtain ⟨g1, h⟩ := gd h
      obtain ⟨r2, hc3, h⟩ := ob h
      refine r_callV1 (pc := 17) (av := []) (S := []) dX12_hollow_17 (kX12_isFull hc3) g1 rfl mkX12_349 mwX12_isFull rfl ⟨Nat.le_of_ble_eq_true rfl, Nat.le_of_ble_eq_true rfl⟩ (Nat.le_of_ble_eq_true rfl) ⟨Nat.le_refl _, Nat.le_refl _⟩ (fun b => b) ?_
      refine r_if_eq (pc := 20) (tgt := 26) dX12_hollow_20 rfl (fun c => ?_) (fun c => ?_)
      · have h := it h c
        refine r_iload_n (pc := 26) dX12_hollow_26 rfl 3 rfl ?_
        refine r_ifge (pc := 27) (tgt := 36) dX12_hollow_27 rfl (fun c => ?_) (fun c => ?_)
        · have h := it h c
          refine r_aload_n (pc := 36) dX12_hollow_36 rfl 0 rfl ?_
          obtain ⟨a4, ha4, h⟩ := ob h
          refine r_getS (pc := 37) dX12_hollow_37 fgX12_9 rfl g1 ha4 ?_
          refine r_iload_n (pc := 40) dX12_hollow_40 rfl 1 rfl ?_
          refine r_aload_n (pc := 41) dX12_hollow_41 rfl 0 rfl ?_
          refine r_iload_n (pc := 42) dX12_hollow_42 rfl 2 rfl ?_
          refine r_iload_n (pc := 43) dX12_hollow_43 rfl 3 rfl ?_
          obtain ⟨⟨I5, r6⟩, hc7, h⟩ := ob h
          refine r_callV1 (pc := 44) (av := [vI x2, vI x3]) (S := [vI x1, vR (some a4)]) dX12_hollow_44 (kX12_newPlaces hc7) g1 rfl mkX12_356 mwX12_newPlaces rfl ⟨Nat.le_of_ble_eq_true rfl, Nat.le_of_ble_eq_true rfl⟩ (Nat.le_of_ble_eq_true rfl) ⟨Nat.le_refl _, Nat.le_refl _⟩ (fun b => b) ?_
          obtain ⟨g8, h⟩ := gd h
          obtain ⟨g9, h⟩ := gd h
          refine r_iastore (pc := 47) dX12_hollow_47 g8 g9 ?_
          refine r_iconst (pc := 48) dX12_hollow_48 kc_iconst_1 ?_
          cases h
          exact r_iret dX12_hollow_49
        · have h := ie h c
          refine r_aload_n (pc := 30) dX12_hollow_30 rfl 0 rfl ?_
          refine r_iconst (pc := 31) dX12_hollow_31 kc_iconst_3 ?_
          obtain ⟨⟨I11, r12⟩, hc13, h⟩ := ob h
          refine r_callV1 (pc := 32) (av := [vI (3 : Int32)]) (S := []) dX12_hollow_32 (kX12_no hc13) g1 rfl mkX12_308 mwX12_no rfl ⟨Nat.le_of_ble_eq_true rfl, Nat.le_of_ble_eq_true rfl⟩ (Nat.le_of_ble_eq_true rfl) ⟨Nat.le_refl _, Nat.le_refl _⟩ (fun b => b) ?_
          cases h
          exact r_iret dX12_hollow_35
      · have h := ie h c
        refine r_bipush (pc := 23) dX12_hollow_23 kc_bipush_m4 ?_
        cases h
        exact r_iret dX12_hollow_25
    · have h := ie h c
      refine r_bipush (pc := 13) dX12_hollow_13 kc_bipush_m2 ?_
      cases h
      exact r_iret dX12_hollow_15
abbrev WX12_storeys (G : Gx) (l : Launch) (σ0 : Shp) (X1 : Stt) (rv : Option SV) : Stt → Nat → List (Nat × SV) → List SV → Prop := Wm G l yX12_storeys cX12_storeys 3 (some .int) (fun _ => True) (rmx 3 69 σ0 X1.1) σ0 (Qmx G σ0 X1 rv)
def fX12_storeys (σ : Shp) (I : Nat → Nat → Int32) (R : Nat → Nat → Option Nat) (t : Nat) (x1 : Int32) (x2 : Int32) : Option ((Nat → Nat → Int32) × (Int32)) :=
  if kdx σ t = 13 then
  (fX12_hollow σ I R t x1 (11 : Int32) x2 (4 : Int32)).bind fun (I2, r3) =>
  some (I2, r3)
  else none
theorem kX12_storeys {G : Gx} {l : Launch} {σ : Shp} {I : Nat → Nat → Int32} {J : Nat → Nat → Int64} {D : Nat → Nat → UInt64} {R : Nat → Nat → Option Nat} {t : Nat} {x1 : Int32} {x2 : Int32} {I9 : Nat → Nat → Int32} {r9 : Int32} (h : fX12_storeys σ I R t x1 x2 = some (I9, r9)) : Con G l yX12_storeys cX12_storeys 3 (some .int) 3 69 [vR (some t), vI x1, vI x2] (σ, I, J, D, R) (σ, I9, J, D, R) (some (vI r9)) := by
  unfold fX12_storeys at h
  refine Con.mk (by decide +kernel) rfl (Nat.le_of_ble_eq_true rfl) ?_
  show WX12_storeys G l σ (σ, I9, J, D, R) (some (vI r9)) (σ, I, J, D, R) 0 _ []
  refine r_aload_n (pc := 0) dX12_storeys_0 rfl 0 rfl ?_
  refine r_iload_n (pc := 1) dX12_storeys_1 rfl 1 rfl ?_
  refine r_bipush (pc := 2) dX12_storeys_2 kc_bipush_11 ?_
  refine r_iload_n (pc := 4) dX12_storeys_4 rfl 2 rfl ?_
  refine r_iconst (pc := 5) dX12_storeys_5 kc_iconst_4 ?_
  obtain ⟨g1, h⟩ := gd h
  obtain ⟨⟨I2, r3⟩, hc4, h⟩ := ob h
  refine r_callV1 (pc := 6) (av := [vI x1, vI (11 : Int32), vI x2, vI (4 : Int32)]) (S := []) dX12_storeys_6 (kX12_hollow hc4) g1 rfl mkX12_359 mwX12_hollow rfl ⟨Nat.le_of_ble_eq_true rfl, Nat.le_of_ble_eq_true rfl⟩ (Nat.le_of_ble_eq_true rfl) ⟨Nat.le_refl _, Nat.le_refl _⟩ (fun b => b) ?_
  cases h
  exact r_iret dX12_storeys_9
abbrev WX12_tray (G : Gx) (l : Launch) (σ0 : Shp) (X1 : Stt) (rv : Option SV) : Stt → Nat → List (Nat × SV) → List SV → Prop := Wm G l yX12_tray cX12_tray 4 (some .int) (fun _ => True) (rmx 3 69 σ0 X1.1) σ0 (Qmx G σ0 X1 rv)
def fX12_tray (σ : Shp) (I : Nat → Nat → Int32) (R : Nat → Nat → Option Nat) (t : Nat) (x1 : Int32) (x2 : Int32) (x3 : Int32) : Option ((Nat → Nat → Int32) × (Int32)) :=
  if (fX12_in x2 (12 : Int32) (15 : Int32)) = 0 then
    some (I, (-2 : Int32))
  else
    if kdx σ t = 13 then
    (fX12_hollow σ I R t x1 x2 x3 (8 : Int32)).bind fun (I2, r3) =>
    some (I2, r3)
    else none
theorem kX12_tray {G : Gx} {l : Launch} {σ : Shp} {I : Nat → Nat → Int32} {J : Nat → Nat → Int64} {D : Nat → Nat → UInt64} {R : Nat → Nat → Option Nat} {t : Nat} {x1 : Int32} {x2 : Int32} {x3 : Int32} {I9 : Nat → Nat → Int32} {r9 : Int32} (h : fX12_tray σ I R t x1 x2 x3 = some (I9, r9)) : Con G l yX12_tray cX12_tray 4 (some .int) 3 69 [vR (some t), vI x1, vI x2, vI x3] (σ, I, J, D, R) (σ, I9, J, D, R) (some (vI r9)) := by
  unfold fX12_tray at h
  refine Con.mk (by decide +kernel) rfl (Nat.le_of_ble_eq_true rfl) ?_
  show WX12_tray G l σ (σ, I9, J, D, R) (some (vI r9)) (σ, I, J, D, R) 0 _ []
  refine r_iload_n (pc := 0) dX12_tray_0 rfl 2 rfl ?_
  refine r_bipush (pc := 1) dX12_tray_1 kc_bipush_12 ?_
  refine r_bipush (pc := 3) dX12_tray_3 kc_bipush_15 ?_
  refine r_callS1 (pc := 5) (av := [vI x2, vI (12 : Int32), vI (15 : Int32)]) (S := []) dX12_tray_5 (kX12_in rfl) mkX12_322 mwX12_in rfl ⟨Nat.le_of_ble_eq_true rfl, Nat.le_of_ble_eq_true rfl⟩ (Nat.le_of_ble_eq_true rfl) ⟨Nat.le_refl _, Nat.le_refl _⟩ (fun b => b) ?_
  refine r_if_eq (pc := 8) (tgt := 23) dX12_tray_8 rfl (fun c => ?_) (fun c => ?_)
  · have h := it h c
    refine r_bipush (pc := 23) dX12_tray_23 kc_bipush_m2 ?_
    cases h
    exact r_iret dX12_tray_25
  · have h := ie h c
    refine r_aload_n (pc := 11) dX12_tray_11 rfl 0 rfl ?_
    refine r_iload_n (pc := 12) dX12_tray_12 rfl 1 rfl ?_
    refine r_iload_n (pc := 13) dX12_tray_13 rfl 2 rfl ?_
    refine r_iload_n (pc := 14) dX12_tray_14 rfl 3 rfl ?_
    refine r_bipush (pc := 15) dX12_tray_15 kc_bipush_8 ?_
    obtain ⟨g1, h⟩ := gd h
    obtain ⟨⟨I2, r3⟩, hc4, h⟩ := ob h
    refine r_callV1 (pc := 17) (av := [vI x1, vI x2, vI x3, vI (8 : Int32)]) (S := []) dX12_tray_17 (kX12_hollow hc4) g1 rfl mkX12_359 mwX12_hollow rfl ⟨Nat.le_of_ble_eq_true rfl, Nat.le_of_ble_eq_true rfl⟩ (Nat.le_of_ble_eq_true rfl) ⟨Nat.le_refl _, Nat.le_refl _⟩ (fun b => b) ?_
    refine r_goto (pc := 20) (tgt := 25) dX12_tray_20 rfl ?_
    cases h
    exact r_iret dX12_tray_25
abbrev WX12_share (G : Gx) (l : Launch) (σ0 : Shp) (X1 : Stt) (rv : Option SV) : Stt → Nat → List (Nat × SV) → List SV → Prop := Wm G l yX12_share cX12_share 3 (some .int) (fun _ => True) (rmx 1 20 σ0 X1.1) σ0 (Qmx G σ0 X1 rv)
def fX12_share_b22  (σ : Shp) (R : Nat → Nat → Option Nat) (t : Nat) (I : Nat → Nat → Int32) (x1 : Int32) (x2 : Int32) : Option ((Nat → Nat → Int32) × (Int32)) :=
  if kdx σ t = 13 then
  ((R t 3) : Option Nat).bind fun a2 =>
  if x2 = (-1 : Int32) then
    if kdx σ a2 = 20 then
    if ¬ (x1 < 0 ∨ lnx σ a2 ≤ Int32.toNatClampNeg x1) then
    let I9 := u2 I a2 (Int32.toNatClampNeg x1) (0 : Int32)
    some (I9, (1 : Int32))
    else none
    else none
  else
    if kdx σ a2 = 20 then
    if ¬ (x2 < 0 ∨ lnx σ a2 ≤ Int32.toNatClampNeg x2) then
    if ¬ (x1 < 0 ∨ lnx σ a2 ≤ Int32.toNatClampNeg x1) then
    let I6 := u2 I a2 (Int32.toNatClampNeg x1) (I a2 (Int32.toNatClampNeg x2))
    some (I6, (1 : Int32))
    else none
    else none
    else none
  else none
theorem wX12_share_b22 {G : Gx} {l : Launch} {σ : Shp} {I : Nat → Nat → Int32} {J : Nat → Nat → Int64} {D : Nat → Nat → UInt64} {R : Nat → Nat → Option Nat} {t : Nat} {I9 : Nat → Nat → Int32} {r9 : Int32} {x1 : Int32} {x2 : Int32} (h : fX12_share_b22 σ R t I x1 x2 = some (I9, r9)) : WX12_share G l σ (σ, I9, J, D, R) (some (vI r9)) (σ, I, J, D, R) 22 [(0, vR (some t)), (1, vI x1), (2, vI x2)] [] := by
  unfold fX12_share_b22 at h
  refine r_aload_n (pc := 22) dX12_share_22 rfl 0 rfl ?_
  obtain ⟨g1, h⟩ := gd h
  obtain ⟨a2, ha2, h⟩ := ob h
  refine r_getS (pc := 23) dX12_share_23 fgX12_9 rfl g1 ha2 ?_
  refine r_iload_n (pc := 26) dX12_share_26 rfl 1 rfl ?_
  refine r_iload_n (pc := 27) dX12_share_27 rfl 2 rfl ?_
  refine r_iconst (pc := 28) dX12_share_28 kc_iconst_m1 ?_
  refine r_icmp_ne (pc := 29) (tgt := 36) dX12_share_29 rfl (fun c => ?_) (fun c => ?_)
  · have h := ie h c
    refine r_aload_n (pc := 36) dX12_share_36 rfl 0 rfl ?_
    refine r_getS (pc := 37) dX12_share_37 fgX12_9 rfl g1 ha2 ?_
    refine r_iload_n (pc := 40) dX12_share_40 rfl 2 rfl ?_
    obtain ⟨g3, h⟩ := gd h
    obtain ⟨g4, h⟩ := gd h
    refine r_iaload (pc := 41) dX12_share_41 g3 g4 ?_
    obtain ⟨g5, h⟩ := gd h
    refine r_iastore (pc := 42) dX12_share_42 g3 g5 ?_
    refine r_iconst (pc := 43) dX12_share_43 kc_iconst_1 ?_
    cases h
    exact r_iret dX12_share_44
  · have h := it h c
    refine r_iconst (pc := 32) dX12_share_32 kc_iconst_0 ?_
    refine r_goto (pc := 33) (tgt := 42) dX12_share_33 rfl ?_
    obtain ⟨g7, h⟩ := gd h
    obtain ⟨g8, h⟩ := gd h
    refine r_iastore (pc := 42) dX12_share_42 g7 g8 ?_
    refine r_iconst (pc := 43) dX12_share_43 kc_iconst_1 ?_
    cases h
    exact r_iret dX12_share_44
def fX12_share (σ : Shp) (I : Nat → Nat → Int32) (R : Nat → Nat → Option Nat) (t : Nat) (x1 : Int32) (x2 : Int32) : Option ((Nat → Nat → Int32) × (Int32)) :=
  if (fX12_isBin x1) = 0 then
    some (I, (-2 : Int32))
  else
    if x2 = (-1 : Int32) then
      fX12_share_b22 σ R t I x1 x2
    else
      if (fX12_isBin x2) = 0 then
        some (I, (-2 : Int32))
      else
        fX12_share_b22 σ R t I x1 x2
theorem kX12_share {G : Gx} {l : Launch} {σ : Shp} {I : Nat → Nat → Int32} {J : Nat → Nat → Int64} {D : Nat → Nat → UInt64} {R : Nat → Nat → Option Nat} {t : Nat} {x1 : Int32} {x2 : Int32} {I9 : Nat → Nat → Int32} {r9 : Int32} (h : fX12_share σ I R t x1 x2 = some (I9, r9)) : Con G l yX12_share cX12_share 3 (some .int) 1 20 [vR (some t), vI x1, vI x2] (σ, I, J, D, R) (σ, I9, J, D, R) (some (vI r9)) := by
  unfold fX12_share at h
  refine Con.mk (by decide +kernel) rfl (Nat.le_of_ble_eq_true rfl) ?_
  show WX12_share G l σ (σ, I9, J, D, R) (some (vI r9)) (σ, I, J, D, R) 0 _ []
  refine r_iload_n (pc := 0) dX12_share_0 rfl 1 rfl ?_
  refine r_callS1 (pc := 1) (av := [vI x1]) (S := []) dX12_share_1 (kX12_isBin rfl) mkX12_345 mwX12_isBin rfl ⟨Nat.le_of_ble_eq_true rfl, Nat.le_of_ble_eq_true rfl⟩ (Nat.le_of_ble_eq_true rfl) ⟨Nat.le_refl _, Nat.le_refl _⟩ (fun b => b) ?_
  refine r_if_eq (pc := 4) (tgt := 19) dX12_share_4 rfl (fun c => ?_) (fun c => ?_)
  · have h := it h c
    refine r_bipush (pc := 19) dX12_share_19 kc_bipush_m2 ?_
    cases h
    exact r_iret dX12_share_21
  · have h := ie h c
    refine r_iload_n (pc := 7) dX12_share_7 rfl 2 rfl ?_
    refine r_iconst (pc := 8) dX12_share_8 kc_iconst_m1 ?_
    refine r_icmp_eq (pc := 9) (tgt := 22) dX12_share_9 rfl (fun c => ?_) (fun c => ?_)
    · have h := it h c
      refine r_sub [0, 1, 2] rfl ?_
      exact wX12_share_b22 h
    · have h := ie h c
      refine r_iload_n (pc := 12) dX12_share_12 rfl 2 rfl ?_
      refine r_callS1 (pc := 13) (av := [vI x2]) (S := []) dX12_share_13 (kX12_isBin rfl) mkX12_345 mwX12_isBin rfl ⟨Nat.le_of_ble_eq_true rfl, Nat.le_of_ble_eq_true rfl⟩ (Nat.le_of_ble_eq_true rfl) ⟨Nat.le_refl _, Nat.le_refl _⟩ (fun b => b) ?_
      refine r_ifne (pc := 16) (tgt := 22) dX12_share_16 rfl (fun c => ?_) (fun c => ?_)
      · have h := ie h c
        refine r_sub [0, 1, 2] rfl ?_
        exact wX12_share_b22 h
      · have h := it h c
        refine r_bipush (pc := 19) dX12_share_19 kc_bipush_m2 ?_
        cases h
        exact r_iret dX12_share_21
abbrev WX12_form (G : Gx) (l : Launch) (σ0 : Shp) (X1 : Stt) (rv : Option SV) : Stt → Nat → List (Nat × SV) → List SV → Prop := Wm G l yX12_form cX12_form 2 (some .int) (fun _ => True) (rmx 1 20 σ0 X1.1) σ0 (Qmx G σ0 X1 rv)
def fX12_form (σ : Shp) (I : Nat → Nat → Int32) (R : Nat → Nat → Option Nat) (t : Nat) (x1 : Int32) : Option ((Int32)) :=
  if (fX12_isBin x1) = 0 then
    some (-2 : Int32)
  else
    if kdx σ t = 13 then
    ((R t 3) : Option Nat).bind fun a2 =>
    if kdx σ a2 = 20 then
    if ¬ (x1 < 0 ∨ lnx σ a2 ≤ Int32.toNatClampNeg x1) then
    if (I a2 (Int32.toNatClampNeg x1)) = 0 then
      some (-1 : Int32)
    else
      ((R t 4) : Option Nat).bind fun a5 =>
      if kdx σ a5 = 22 then
      if ¬ ((I a2 (Int32.toNatClampNeg x1)) < 0 ∨ lnx σ a5 ≤ Int32.toNatClampNeg (I a2 (Int32.toNatClampNeg x1))) then
      some (I a5 (Int32.toNatClampNeg (I a2 (Int32.toNatClampNeg x1))))
      else none
      else none
    else none
    else none
    else none
theorem kX12_form {G : Gx} {l : Launch} {σ : Shp} {I : Nat → Nat → Int32} {J : Nat → Nat → Int64} {D : Nat → Nat → UInt64} {R : Nat → Nat → Option Nat} {t : Nat} {x1 : Int32} {r9 : Int32} (h : fX12_form σ I R t x1 = some r9) : Con G l yX12_form cX12_form 2 (some .int) 1 20 [vR (some t), vI x1] (σ, I, J, D, R) (σ, I, J, D, R) (some (vI r9)) := by
  unfold fX12_form at h
  refine Con.mk (by decide +kernel) rfl (Nat.le_of_ble_eq_true rfl) ?_
  show WX12_form G l σ (σ, I, J, D, R) (some (vI r9)) (σ, I, J, D, R) 0 _ []
  refine r_iload_n (pc := 0) dX12_form_0 rfl 1 rfl ?_
  refine r_callS1 (pc := 1) (av := [vI x1]) (S := []) dX12_form_1 (kX12_isBin rfl) mkX12_345 mwX12_isBin rfl ⟨Nat.le_of_ble_eq_true rfl, Nat.le_of_ble_eq_true rfl⟩ (Nat.le_of_ble_eq_true rfl) ⟨Nat.le_refl _, Nat.le_refl _⟩ (fun b => b) ?_
  refine r_ifne (pc := 4) (tgt := 12) dX12_form_4 rfl (fun c => ?_) (fun c => ?_)
  · have h := ie h c
    refine r_aload_n (pc := 12) dX12_form_12 rfl 0 rfl ?_
    obtain ⟨g1, h⟩ := gd h
    obtain ⟨a2, ha2, h⟩ := ob h
    refine r_getS (pc := 13) dX12_form_13 fgX12_9 rfl g1 ha2 ?_
    refine r_iload_n (pc := 16) dX12_form_16 rfl 1 rfl ?_
    obtain ⟨g3, h⟩ := gd h
    obtain ⟨g4, h⟩ := gd h
    refine r_iaload (pc := 17) dX12_form_17 g3 g4 ?_
    refine r_ifne (pc := 18) (tgt := 25) dX12_form_18 rfl (fun c => ?_) (fun c => ?_)
    · have h := ie h c
      refine r_aload_n (pc := 25) dX12_form_25 rfl 0 rfl ?_
      obtain ⟨a5, ha5, h⟩ := ob h
      refine r_getS (pc := 26) dX12_form_26 fgX12_15 rfl g1 ha5 ?_
      refine r_aload_n (pc := 29) dX12_form_29 rfl 0 rfl ?_
      refine r_getS (pc := 30) dX12_form_30 fgX12_9 rfl g1 ha2 ?_
      refine r_iload_n (pc := 33) dX12_form_33 rfl 1 rfl ?_
      refine r_iaload (pc := 34) dX12_form_34 g3 g4 ?_
      obtain ⟨g6, h⟩ := gd h
      obtain ⟨g7, h⟩ := gd h
      refine r_baload (pc := 35) dX12_form_35 g6 g7 ?_
      cases h
      exact r_iret dX12_form_36
    · have h := it h c
      refine r_iconst (pc := 21) dX12_form_21 kc_iconst_m1 ?_
      refine r_goto (pc := 22) (tgt := 36) dX12_form_22 rfl ?_
      cases h
      exact r_iret dX12_form_36
  · have h := it h c
    refine r_bipush (pc := 7) dX12_form_7 kc_bipush_m2 ?_
    refine r_goto (pc := 9) (tgt := 36) dX12_form_9 rfl ?_
    cases h
    exact r_iret dX12_form_36
abbrev WX12_is (G : Gx) (l : Launch) (σ0 : Shp) (X1 : Stt) (rv : Option SV) : Stt → Nat → List (Nat × SV) → List SV → Prop := Wm G l yX12_is cX12_is 5 (some .int) (fun _ => True) (rmx 1 22 σ0 X1.1) σ0 (Qmx G σ0 X1 rv)
def fX12_is_b68  (σ : Shp) (I : Nat → Nat → Int32) (R : Nat → Nat → Option Nat) (t : Nat) (x2 : Int32) (x3 : Int32) : Option ((Int32)) :=
  if kdx σ t = 13 then
  ((R t 4) : Option Nat).bind fun a10 =>
  if kdx σ a10 = 22 then
  if ¬ (x3 < 0 ∨ lnx σ a10 ≤ Int32.toNatClampNeg x3) then
  if (I a10 (Int32.toNatClampNeg x3)) = x2 then
    if (1 : Int32) = 0 then
      some (0 : Int32)
    else
      some (1 : Int32)
  else
    if (0 : Int32) = 0 then
      some (0 : Int32)
    else
      some (1 : Int32)
  else none
  else none
  else none
theorem wX12_is_b68 {G : Gx} {l : Launch} {σ : Shp} {I : Nat → Nat → Int32} {J : Nat → Nat → Int64} {D : Nat → Nat → UInt64} {R : Nat → Nat → Option Nat} {t : Nat} {r9 : Int32} {x2 : Int32} {x3 : Int32} (h : fX12_is_b68 σ I R t x2 x3 = some r9) : WX12_is G l σ (σ, I, J, D, R) (some (vI r9)) (σ, I, J, D, R) 68 [(0, vR (some t)), (2, vI x2), (3, vI x3)] [] := by
  unfold fX12_is_b68 at h
  refine r_aload_n (pc := 68) dX12_is_68 rfl 0 rfl ?_
  obtain ⟨g9, h⟩ := gd h
  obtain ⟨a10, ha10, h⟩ := ob h
  refine r_getS (pc := 69) dX12_is_69 fgX12_15 rfl g9 ha10 ?_
  refine r_iload_n (pc := 72) dX12_is_72 rfl 2 rfl ?_
  obtain ⟨g11, h⟩ := gd h
  obtain ⟨g12, h⟩ := gd h
  refine r_baload (pc := 73) dX12_is_73 g11 g12 ?_
  refine r_iload_n (pc := 74) dX12_is_74 rfl 1 rfl ?_
  refine r_icmp_ne (pc := 75) (tgt := 82) dX12_is_75 rfl (fun c => ?_) (fun c => ?_)
  · have h := ie h c
    refine r_iconst (pc := 82) dX12_is_82 kc_iconst_0 ?_
    refine r_istore (pc := 83) (L' := [(4, vI (0 : Int32)), (0, vR (some t)), (2, vI x2), (3, vI x3)]) dX12_is_83 (by decide) rfl ?_
    refine r_iload (pc := 85) dX12_is_85 0 rfl ?_
    refine r_if_eq (pc := 87) (tgt := 94) dX12_is_87 rfl (fun c => ?_) (fun c => ?_)
    · have h := it h c
      refine r_iconst (pc := 94) dX12_is_94 kc_iconst_0 ?_
      cases h
      exact r_iret dX12_is_95
    · have h := ie h c
      refine r_iconst (pc := 90) dX12_is_90 kc_iconst_1 ?_
      refine r_goto (pc := 91) (tgt := 95) dX12_is_91 rfl ?_
      cases h
      exact r_iret dX12_is_95
  · have h := it h c
    refine r_iconst (pc := 78) dX12_is_78 kc_iconst_1 ?_
    refine r_goto (pc := 79) (tgt := 83) dX12_is_79 rfl ?_
    refine r_istore (pc := 83) (L' := [(4, vI (1 : Int32)), (0, vR (some t)), (2, vI x2), (3, vI x3)]) dX12_is_83 (by decide) rfl ?_
    refine r_iload (pc := 85) dX12_is_85 0 rfl ?_
    refine r_if_eq (pc := 87) (tgt := 94) dX12_is_87 rfl (fun c => ?_) (fun c => ?_)
    · have h := it h c
      refine r_iconst (pc := 94) dX12_is_94 kc_iconst_0 ?_
      cases h
      exact r_iret dX12_is_95
    · have h := ie h c
      refine r_iconst (pc := 90) dX12_is_90 kc_iconst_1 ?_
      refine r_goto (pc := 91) (tgt := 95) dX12_is_91 rfl ?_
      cases h
      exact r_iret dX12_is_95
def fX12_is (σ : Shp) (I : Nat → Nat → Int32) (R : Nat → Nat → Option Nat) (t : Nat) (x1 : Int32) (x2 : Int32) : Option ((Int32)) :=
  if (fX12_isBin x1) = 0 then
    some (-2 : Int32)
  else
    if (fX12_in x2 (0 : Int32) (17 : Int32)) = 0 then
      some (-2 : Int32)
    else
      if kdx σ t = 13 then
      ((R t 3) : Option Nat).bind fun a2 =>
      if kdx σ a2 = 20 then
      if ¬ (x1 < 0 ∨ lnx σ a2 ≤ Int32.toNatClampNeg x1) then
      let v5 := (I a2 (Int32.toNatClampNeg x1))
      if v5 = 0 then
        some (0 : Int32)
      else
        ((R t 4) : Option Nat).bind fun a6 =>
        if kdx σ a6 = 22 then
        if ¬ (v5 < 0 ∨ lnx σ a6 ≤ Int32.toNatClampNeg v5) then
        if (I a6 (Int32.toNatClampNeg v5)) = (16 : Int32) then
          if (fX12_in x2 (12 : Int32) (15 : Int32)) = 0 then
            fX12_is_b68 σ I R t x2 v5
          else
            ((R t 12) : Option Nat).bind fun a13 =>
            if kdx σ a13 = 22 then
            if ¬ (v5 < 0 ∨ lnx σ a13 ≤ Int32.toNatClampNeg v5) then
            let v16 := (fX12_isTrayFor x2 (I a13 (Int32.toNatClampNeg v5)))
            if v16 = 0 then
              some (0 : Int32)
            else
              some (1 : Int32)
            else none
            else none
        else
          fX12_is_b68 σ I R t x2 v5
        else none
        else none
      else none
      else none
      else none
theorem kX12_is {G : Gx} {l : Launch} {σ : Shp} {I : Nat → Nat → Int32} {J : Nat → Nat → Int64} {D : Nat → Nat → UInt64} {R : Nat → Nat → Option Nat} {t : Nat} {x1 : Int32} {x2 : Int32} {r9 : Int32} (h : fX12_is σ I R t x1 x2 = some r9) : Con G l yX12_is cX12_is 5 (some .int) 1 22 [vR (some t), vI x1, vI x2] (σ, I, J, D, R) (σ, I, J, D, R) (some (vI r9)) := by
  unfold fX12_is at h
  refine Con.mk (by decide +kernel) rfl (Nat.le_of_ble_eq_true rfl) ?_
  show WX12_is G l σ (σ, I, J, D, R) (some (vI r9)) (σ, I, J, D, R) 0 _ []
  refine r_iload_n (pc := 0) dX12_is_0 rfl 1 rfl ?_
  refine r_callS1 (pc := 1) (av := [vI x1]) (S := []) dX12_is_1 (kX12_isBin rfl) mkX12_345 mwX12_isBin rfl ⟨Nat.le_of_ble_eq_true rfl, Nat.le_of_ble_eq_true rfl⟩ (Nat.le_of_ble_eq_true rfl) ⟨Nat.le_refl _, Nat.le_refl _⟩ (fun b => b) ?_
  refine r_if_eq (pc := 4) (tgt := 17) dX12_is_4 rfl (fun c => ?_) (fun c => ?_)
  · have h := it h c
    refine r_bipush (pc := 17) dX12_is_17 kc_bipush_m2 ?_
    cases h
    exact r_iret dX12_is_19
  · have h := ie h c
    refine r_iload_n (pc := 7) dX12_is_7 rfl 2 rfl ?_
    refine r_iconst (pc := 8) dX12_is_8 kc_iconst_0 ?_
    refine r_bipush (pc := 9) dX12_is_9 kc_bipush_17 ?_
    refine r_callS1 (pc := 11) (av := [vI x2, vI (0 : Int32), vI (17 : Int32)]) (S := []) dX12_is_11 (kX12_in rfl) mkX12_322 mwX12_in rfl ⟨Nat.le_of_ble_eq_true rfl, Nat.le_of_ble_eq_true rfl⟩ (Nat.le_of_ble_eq_true rfl) ⟨Nat.le_refl _, Nat.le_refl _⟩ (fun b => b) ?_
    refine r_ifne (pc := 14) (tgt := 20) dX12_is_14 rfl (fun c => ?_) (fun c => ?_)
    · have h := ie h c
      refine r_aload_n (pc := 20) dX12_is_20 rfl 0 rfl ?_
      obtain ⟨g1, h⟩ := gd h
      obtain ⟨a2, ha2, h⟩ := ob h
      refine r_getS (pc := 21) dX12_is_21 fgX12_9 rfl g1 ha2 ?_
      refine r_iload_n (pc := 24) dX12_is_24 rfl 1 rfl ?_
      obtain ⟨g3, h⟩ := gd h
      obtain ⟨g4, h⟩ := gd h
      refine r_iaload (pc := 25) dX12_is_25 g3 g4 ?_
      refine r_istore_n (pc := 26) (L' := [(3, vI (I a2 (Int32.toNatClampNeg x1))), (0, vR (some t)), (1, vI x1), (2, vI x2)]) dX12_is_26 rfl (by decide) rfl ?_
      refine r_iload_n (pc := 27) dX12_is_27 rfl 0 rfl ?_
      refine r_ifne (pc := 28) (tgt := 33) dX12_is_28 rfl (fun c => ?_) (fun c => ?_)
      · have h := ie h c
        refine r_aload_n (pc := 33) dX12_is_33 rfl 1 rfl ?_
        obtain ⟨a6, ha6, h⟩ := ob h
        refine r_getS (pc := 34) dX12_is_34 fgX12_15 rfl g1 ha6 ?_
        refine r_iload_n (pc := 37) dX12_is_37 rfl 0 rfl ?_
        obtain ⟨g7, h⟩ := gd h
        obtain ⟨g8, h⟩ := gd h
        refine r_baload (pc := 38) dX12_is_38 g7 g8 ?_
        refine r_bipush (pc := 39) dX12_is_39 kc_bipush_16 ?_
        refine r_icmp_ne (pc := 41) (tgt := 68) dX12_is_41 rfl (fun c => ?_) (fun c => ?_)
        · have h := ie h c
          refine r_sub [1, 3, 0] rfl ?_
          exact wX12_is_b68 h
        · have h := it h c
          refine r_iload_n (pc := 44) dX12_is_44 rfl 3 rfl ?_
          refine r_bipush (pc := 45) dX12_is_45 kc_bipush_12 ?_
          refine r_bipush (pc := 47) dX12_is_47 kc_bipush_15 ?_
          refine r_callS1 (pc := 49) (av := [vI x2, vI (12 : Int32), vI (15 : Int32)]) (S := []) dX12_is_49 (kX12_in rfl) mkX12_322 mwX12_in rfl ⟨Nat.le_of_ble_eq_true rfl, Nat.le_of_ble_eq_true rfl⟩ (Nat.le_of_ble_eq_true rfl) ⟨Nat.le_refl _, Nat.le_refl _⟩ (fun b => b) ?_
          refine r_if_eq (pc := 52) (tgt := 68) dX12_is_52 rfl (fun c => ?_) (fun c => ?_)
          · have h := it h c
            refine r_sub [1, 3, 0] rfl ?_
            exact wX12_is_b68 h
          · have h := ie h c
            refine r_iload_n (pc := 55) dX12_is_55 rfl 3 rfl ?_
            refine r_aload_n (pc := 56) dX12_is_56 rfl 1 rfl ?_
            obtain ⟨a13, ha13, h⟩ := ob h
            refine r_getS (pc := 57) dX12_is_57 fgX12_38 rfl g1 ha13 ?_
            refine r_iload_n (pc := 60) dX12_is_60 rfl 0 rfl ?_
            obtain ⟨g14, h⟩ := gd h
            obtain ⟨g15, h⟩ := gd h
            refine r_baload (pc := 61) dX12_is_61 g14 g15 ?_
            refine r_callS1 (pc := 62) (av := [vI x2, vI (I a13 (Int32.toNatClampNeg (I a2 (Int32.toNatClampNeg x1))))]) (S := []) dX12_is_62 (kX12_isTrayFor rfl) mkX12_329 mwX12_isTrayFor rfl ⟨Nat.le_of_ble_eq_true rfl, Nat.le_of_ble_eq_true rfl⟩ (Nat.le_of_ble_eq_true rfl) ⟨Nat.le_refl _, Nat.le_refl _⟩ (fun b => b) ?_
            refine r_goto (pc := 65) (tgt := 83) dX12_is_65 rfl ?_
            refine r_istore (pc := 83) (L' := [(4, vI (fX12_isTrayFor x2 (I a13 (Int32.toNatClampNeg (I a2 (Int32.toNatClampNeg x1)))))), (3, vI (I a2 (Int32.toNatClampNeg x1))), (0, vR (some t)), (1, vI x1), (2, vI x2)]) dX12_is_83 (by decide) rfl ?_
            refine r_iload (pc := 85) dX12_is_85 0 rfl ?_
            refine r_if_eq (pc := 87) (tgt := 94) dX12_is_87 rfl (fun c => ?_) (fun c => ?_)
            · have h := it h c
              refine r_iconst (pc := 94) dX12_is_94 kc_iconst_0 ?_
              cases h
              exact r_iret dX12_is_95
            · have h := ie h c
              refine r_iconst (pc := 90) dX12_is_90 kc_iconst_1 ?_
              refine r_goto (pc := 91) (tgt := 95) dX12_is_91 rfl ?_
              cases h
              exact r_iret dX12_is_95
      · have h := it h c
        refine r_iconst (pc := 31) dX12_is_31 kc_iconst_0 ?_
        cases h
        exact r_iret dX12_is_32
    · have h := it h c
      refine r_bipush (pc := 17) dX12_is_17 kc_bipush_m2 ?_
      cases h
      exact r_iret dX12_is_19
abbrev WX12_against (G : Gx) (l : Launch) (σ0 : Shp) (X1 : Stt) (rv : Option SV) : Stt → Nat → List (Nat × SV) → List SV → Prop := Wm G l yX12_against cX12_against 4 (some .int) (fun _ => True) (rmx 2 44 σ0 X1.1) σ0 (Qmx G σ0 X1 rv)
def fX12_against (σ : Shp) (I : Nat → Nat → Int32) (R : Nat → Nat → Option Nat) (t : Nat) (x1 : Int32) (x2 : Int32) (x3 : Int32) : Option ((Int32)) :=
  if kdx σ t = 13 then
  (fX12_isOf σ I R t x1 x2).bind fun r2 =>
  if r2 = 0 then
    some (4 : Int32)
  else
    (fX12_looked σ I R t x1 x3).bind fun r4 =>
    some r4
  else none
theorem kX12_against {G : Gx} {l : Launch} {σ : Shp} {I : Nat → Nat → Int32} {J : Nat → Nat → Int64} {D : Nat → Nat → UInt64} {R : Nat → Nat → Option Nat} {t : Nat} {x1 : Int32} {x2 : Int32} {x3 : Int32} {r9 : Int32} (h : fX12_against σ I R t x1 x2 x3 = some r9) : Con G l yX12_against cX12_against 4 (some .int) 2 44 [vR (some t), vI x1, vI x2, vI x3] (σ, I, J, D, R) (σ, I, J, D, R) (some (vI r9)) := by
  unfold fX12_against at h
  refine Con.mk (by decide +kernel) rfl (Nat.le_of_ble_eq_true rfl) ?_
  show WX12_against G l σ (σ, I, J, D, R) (some (vI r9)) (σ, I, J, D, R) 0 _ []
  refine r_aload_n (pc := 0) dX12_against_0 rfl 0 rfl ?_
  refine r_iload_n (pc := 1) dX12_against_1 rfl 1 rfl ?_
  refine r_iload_n (pc := 2) dX12_against_2 rfl 2 rfl ?_
  obtain ⟨g1, h⟩ := gd h
  obtain ⟨r2, hc3, h⟩ := ob h
  refine r_callV1 (pc := 3) (av := [vI x1, vI x2]) (S := []) dX12_against_3 (kX12_isOf hc3) g1 rfl mkX12_363 mwX12_isOf rfl ⟨Nat.le_of_ble_eq_true rfl, Nat.le_of_ble_eq_true rfl⟩ (Nat.le_of_ble_eq_true rfl) ⟨Nat.le_refl _, Nat.le_refl _⟩ (fun b => b) ?_
  refine r_if_eq (pc := 6) (tgt := 18) dX12_against_6 rfl (fun c => ?_) (fun c => ?_)
  · have h := it h c
    refine r_iconst (pc := 18) dX12_against_18 kc_iconst_4 ?_
    cases h
    exact r_iret dX12_against_19
  · have h := ie h c
    refine r_aload_n (pc := 9) dX12_against_9 rfl 0 rfl ?_
    refine r_iload_n (pc := 10) dX12_against_10 rfl 1 rfl ?_
    refine r_iload_n (pc := 11) dX12_against_11 rfl 3 rfl ?_
    obtain ⟨r4, hc5, h⟩ := ob h
    refine r_callV1 (pc := 12) (av := [vI x1, vI x3]) (S := []) dX12_against_12 (kX12_looked hc5) g1 rfl mkX12_366 mwX12_looked rfl ⟨Nat.le_of_ble_eq_true rfl, Nat.le_of_ble_eq_true rfl⟩ (Nat.le_of_ble_eq_true rfl) ⟨Nat.le_refl _, Nat.le_refl _⟩ (fun b => b) ?_
    refine r_goto (pc := 15) (tgt := 19) dX12_against_15 rfl ?_
    cases h
    exact r_iret dX12_against_19
abbrev WX12_get (G : Gx) (l : Launch) (σ0 : Shp) (X1 : Stt) (rv : Option SV) : Stt → Nat → List (Nat × SV) → List SV → Prop := Wm G l yX12_get cX12_get 6 (some .long) (fun _ => True) (rmx 3 67 σ0 X1.1) σ0 (Qmx G σ0 X1 rv)
def fX12_get (σ : Shp) (I : Nat → Nat → Int32) (J : Nat → Nat → Int64) (R : Nat → Nat → Option Nat) (t : Nat) (x1 : Int32) (x2 : Int32) (x3 : Int32) : Option ((Nat → Nat → Int32) × (Int64)) :=
  if (fX12_isBin x1) = 0 then
    some (I, (0 : Int64))
  else
    if (fX12_in x2 (0 : Int32) (7 : Int32)) = 0 then
      some (I, (0 : Int64))
    else
      if kdx σ t = 13 then
      ((R t 3) : Option Nat).bind fun a2 =>
      if kdx σ a2 = 20 then
      if ¬ (x1 < 0 ∨ lnx σ a2 ≤ Int32.toNatClampNeg x1) then
      let v5 := (I a2 (Int32.toNatClampNeg x1))
      (fX12_against σ I R t v5 x2 x3).bind fun r6 =>
      if r6 = 0 then
        ((R t 8) : Option Nat).bind fun a8 =>
        ((R t 6) : Option Nat).bind fun a9 =>
        if kdx σ a9 = 20 then
        if ¬ (v5 < 0 ∨ lnx σ a9 ≤ Int32.toNatClampNeg v5) then
        if kdx σ a8 = 21 then
        if ¬ (((I a9 (Int32.toNatClampNeg v5)) + x3) < 0 ∨ lnx σ a8 ≤ Int32.toNatClampNeg ((I a9 (Int32.toNatClampNeg v5)) + x3)) then
        some (I, (J a8 (Int32.toNatClampNeg ((I a9 (Int32.toNatClampNeg v5)) + x3))))
        else none
        else none
        else none
        else none
      else
        (fX12_noBits σ I t r6).bind fun (I14, r15) =>
        some (I14, r15)
      else none
      else none
      else none
theorem kX12_get {G : Gx} {l : Launch} {σ : Shp} {I : Nat → Nat → Int32} {J : Nat → Nat → Int64} {D : Nat → Nat → UInt64} {R : Nat → Nat → Option Nat} {t : Nat} {x1 : Int32} {x2 : Int32} {x3 : Int32} {I9 : Nat → Nat → Int32} {r9 : Int64} (h : fX12_get σ I J R t x1 x2 x3 = some (I9, r9)) : Con G l yX12_get cX12_get 6 (some .long) 3 67 [vR (some t), vI x1, vI x2, vI x3] (σ, I, J, D, R) (σ, I9, J, D, R) (some (vL r9)) := by
  unfold fX12_get at h
  refine Con.mk (by decide +kernel) rfl (Nat.le_of_ble_eq_true rfl) ?_
  show WX12_get G l σ (σ, I9, J, D, R) (some (vL r9)) (σ, I, J, D, R) 0 _ []
  refine r_iload_n (pc := 0) dX12_get_0 rfl 1 rfl ?_
  refine r_callS1 (pc := 1) (av := [vI x1]) (S := []) dX12_get_1 (kX12_isBin rfl) mkX12_345 mwX12_isBin rfl ⟨Nat.le_of_ble_eq_true rfl, Nat.le_of_ble_eq_true rfl⟩ (Nat.le_of_ble_eq_true rfl) ⟨Nat.le_refl _, Nat.le_refl _⟩ (fun b => b) ?_
  refine r_if_eq (pc := 4) (tgt := 17) dX12_get_4 rfl (fun c => ?_) (fun c => ?_)
  · have h := it h c
    refine r_lconst (pc := 17) dX12_get_17 kc_lconst_0 ?_
    cases h
    exact r_lret dX12_get_18
  · have h := ie h c
    refine r_iload_n (pc := 7) dX12_get_7 rfl 2 rfl ?_
    refine r_iconst (pc := 8) dX12_get_8 kc_iconst_0 ?_
    refine r_bipush (pc := 9) dX12_get_9 kc_bipush_7 ?_
    refine r_callS1 (pc := 11) (av := [vI x2, vI (0 : Int32), vI (7 : Int32)]) (S := []) dX12_get_11 (kX12_in rfl) mkX12_322 mwX12_in rfl ⟨Nat.le_of_ble_eq_true rfl, Nat.le_of_ble_eq_true rfl⟩ (Nat.le_of_ble_eq_true rfl) ⟨Nat.le_refl _, Nat.le_refl _⟩ (fun b => b) ?_
    refine r_ifne (pc := 14) (tgt := 19) dX12_get_14 rfl (fun c => ?_) (fun c => ?_)
    · have h := ie h c
      refine r_aload_n (pc := 19) dX12_get_19 rfl 0 rfl ?_
      obtain ⟨g1, h⟩ := gd h
      obtain ⟨a2, ha2, h⟩ := ob h
      refine r_getS (pc := 20) dX12_get_20 fgX12_9 rfl g1 ha2 ?_
      refine r_iload_n (pc := 23) dX12_get_23 rfl 1 rfl ?_
      obtain ⟨g3, h⟩ := gd h
      obtain ⟨g4, h⟩ := gd h
      refine r_iaload (pc := 24) dX12_get_24 g3 g4 ?_
      refine r_istore (pc := 25) (L' := [(4, vI (I a2 (Int32.toNatClampNeg x1))), (0, vR (some t)), (1, vI x1), (2, vI x2), (3, vI x3)]) dX12_get_25 (by decide) rfl ?_
      refine r_aload_n (pc := 27) dX12_get_27 rfl 1 rfl ?_
      refine r_iload (pc := 28) dX12_get_28 0 rfl ?_
      refine r_iload_n (pc := 30) dX12_get_30 rfl 3 rfl ?_
      refine r_iload_n (pc := 31) dX12_get_31 rfl 4 rfl ?_
      obtain ⟨r6, hc7, h⟩ := ob h
      refine r_callV1 (pc := 32) (av := [vI (I a2 (Int32.toNatClampNeg x1)), vI x2, vI x3]) (S := []) dX12_get_32 (kX12_against hc7) g1 rfl mkX12_369 mwX12_against rfl ⟨Nat.le_of_ble_eq_true rfl, Nat.le_of_ble_eq_true rfl⟩ (Nat.le_of_ble_eq_true rfl) ⟨Nat.le_refl _, Nat.le_refl _⟩ (fun b => b) ?_
      refine r_istore (pc := 35) (L' := [(5, vI r6), (4, vI (I a2 (Int32.toNatClampNeg x1))), (0, vR (some t)), (1, vI x1), (2, vI x2), (3, vI x3)]) dX12_get_35 (by decide) rfl ?_
      refine r_iload (pc := 37) dX12_get_37 0 rfl ?_
      refine r_if_eq (pc := 39) (tgt := 51) dX12_get_39 rfl (fun c => ?_) (fun c => ?_)
      · have h := it h c
        refine r_aload_n (pc := 51) dX12_get_51 rfl 2 rfl ?_
        obtain ⟨a8, ha8, h⟩ := ob h
        refine r_getS (pc := 52) dX12_get_52 fgX12_26 rfl g1 ha8 ?_
        refine r_aload_n (pc := 55) dX12_get_55 rfl 2 rfl ?_
        obtain ⟨a9, ha9, h⟩ := ob h
        refine r_getS (pc := 56) dX12_get_56 fgX12_22 rfl g1 ha9 ?_
        refine r_iload (pc := 59) dX12_get_59 1 rfl ?_
        obtain ⟨g10, h⟩ := gd h
        obtain ⟨g11, h⟩ := gd h
        refine r_iaload (pc := 61) dX12_get_61 g10 g11 ?_
        refine r_iload_n (pc := 62) dX12_get_62 rfl 5 rfl ?_
        refine r_iadd (pc := 63) dX12_get_63 ?_
        obtain ⟨g12, h⟩ := gd h
        obtain ⟨g13, h⟩ := gd h
        refine r_laload (pc := 64) dX12_get_64 g12 g13 ?_
        cases h
        exact r_lret dX12_get_65
      · have h := ie h c
        refine r_aload_n (pc := 42) dX12_get_42 rfl 2 rfl ?_
        refine r_iload (pc := 43) dX12_get_43 0 rfl ?_
        obtain ⟨⟨I14, r15⟩, hc16, h⟩ := ob h
        refine r_callV1 (pc := 45) (av := [vI r6]) (S := []) dX12_get_45 (kX12_noBits hc16) g1 rfl mkX12_373 mwX12_noBits rfl ⟨Nat.le_of_ble_eq_true rfl, Nat.le_of_ble_eq_true rfl⟩ (Nat.le_of_ble_eq_true rfl) ⟨Nat.le_refl _, Nat.le_refl _⟩ (fun b => b) ?_
        refine r_goto (pc := 48) (tgt := 65) dX12_get_48 rfl ?_
        cases h
        exact r_lret dX12_get_65
    · have h := it h c
      refine r_lconst (pc := 17) dX12_get_17 kc_lconst_0 ?_
      cases h
      exact r_lret dX12_get_18
abbrev WX12_put (G : Gx) (l : Launch) (σ0 : Shp) (X1 : Stt) (rv : Option SV) : Stt → Nat → List (Nat × SV) → List SV → Prop := Wm G l yX12_put cX12_put 8 (some .int) (fun _ => True) (rmx 3 67 σ0 X1.1) σ0 (Qmx G σ0 X1 rv)
def fX12_put (σ : Shp) (I : Nat → Nat → Int32) (J : Nat → Nat → Int64) (R : Nat → Nat → Option Nat) (t : Nat) (x1 : Int32) (x2 : Int32) (x3 : Int32) (x4 : Int64) : Option ((Nat → Nat → Int32) × (Nat → Nat → Int64) × (Int32)) :=
  if (fX12_isBin x1) = 0 then
    some (I, J, (-2 : Int32))
  else
    if (fX12_in x2 (0 : Int32) (7 : Int32)) = 0 then
      some (I, J, (-2 : Int32))
    else
      if kdx σ t = 13 then
      ((R t 3) : Option Nat).bind fun a2 =>
      if kdx σ a2 = 20 then
      if ¬ (x1 < 0 ∨ lnx σ a2 ≤ Int32.toNatClampNeg x1) then
      let v5 := (I a2 (Int32.toNatClampNeg x1))
      (fX12_against σ I R t v5 x2 x3).bind fun r6 =>
      if r6 = 0 then
        ((R t 8) : Option Nat).bind fun a8 =>
        ((R t 6) : Option Nat).bind fun a9 =>
        if kdx σ a9 = 20 then
        if ¬ (v5 < 0 ∨ lnx σ a9 ≤ Int32.toNatClampNeg v5) then
        if kdx σ a8 = 21 then
        if ¬ (((I a9 (Int32.toNatClampNeg v5)) + x3) < 0 ∨ lnx σ a8 ≤ Int32.toNatClampNeg ((I a9 (Int32.toNatClampNeg v5)) + x3)) then
        let J14 := u2 J a8 (Int32.toNatClampNeg ((I a9 (Int32.toNatClampNeg v5)) + x3)) (fX12_fitted x2 x4)
        some (I, J14, (1 : Int32))
        else none
        else none
        else none
        else none
      else
        (fX12_no σ I t r6).bind fun (I15, r16) =>
        some (I15, J, r16)
      else none
      else none
      else none
theorem kX12_put {G : Gx} {l : Launch} {σ : Shp} {I : Nat → Nat → Int32} {J : Nat → Nat → Int64} {D : Nat → Nat → UInt64} {R : Nat → Nat → Option Nat} {t : Nat} {x1 : Int32} {x2 : Int32} {x3 : Int32} {x4 : Int64} {I9 : Nat → Nat → Int32} {J9 : Nat → Nat → Int64} {r9 : Int32} (h : fX12_put σ I J R t x1 x2 x3 x4 = some (I9, J9, r9)) : Con G l yX12_put cX12_put 8 (some .int) 3 67 [vR (some t), vI x1, vI x2, vI x3, vL x4] (σ, I, J, D, R) (σ, I9, J9, D, R) (some (vI r9)) := by
  unfold fX12_put at h
  refine Con.mk (by decide +kernel) rfl (Nat.le_of_ble_eq_true rfl) ?_
  show WX12_put G l σ (σ, I9, J9, D, R) (some (vI r9)) (σ, I, J, D, R) 0 _ []
  refine r_iload_n (pc := 0) dX12_put_0 rfl 1 rfl ?_
  refine r_callS1 (pc := 1) (av := [vI x1]) (S := []) dX12_put_1 (kX12_isBin rfl) mkX12_345 mwX12_isBin rfl ⟨Nat.le_of_ble_eq_true rfl, Nat.le_of_ble_eq_true rfl⟩ (Nat.le_of_ble_eq_true rfl) ⟨Nat.le_refl _, Nat.le_refl _⟩ (fun b => b) ?_
  refine r_if_eq (pc := 4) (tgt := 17) dX12_put_4 rfl (fun c => ?_) (fun c => ?_)
  · have h := it h c
    refine r_bipush (pc := 17) dX12_put_17 kc_bipush_m2 ?_
    cases h
    exact r_iret dX12_put_19
  · have h := ie h c
    refine r_iload_n (pc := 7) dX12_put_7 rfl 2 rfl ?_
    refine r_iconst (pc := 8) dX12_put_8 kc_iconst_0 ?_
    refine r_bipush (pc := 9) dX12_put_9 kc_bipush_7 ?_
    refine r_callS1 (pc := 11) (av := [vI x2, vI (0 : Int32), vI (7 : Int32)]) (S := []) dX12_put_11 (kX12_in rfl) mkX12_322 mwX12_in rfl ⟨Nat.le_of_ble_eq_true rfl, Nat.le_of_ble_eq_true rfl⟩ (Nat.le_of_ble_eq_true rfl) ⟨Nat.le_refl _, Nat.le_refl _⟩ (fun b => b) ?_
    refine r_ifne (pc := 14) (tgt := 20) dX12_put_14 rfl (fun c => ?_) (fun c => ?_)
    · have h := ie h c
      refine r_aload_n (pc := 20) dX12_put_20 rfl 0 rfl ?_
      obtain ⟨g1, h⟩ := gd h
      obtain ⟨a2, ha2, h⟩ := ob h
      refine r_getS (pc := 21) dX12_put_21 fgX12_9 rfl g1 ha2 ?_
      refine r_iload_n (pc := 24) dX12_put_24 rfl 1 rfl ?_
      obtain ⟨g3, h⟩ := gd h
      obtain ⟨g4, h⟩ := gd h
      refine r_iaload (pc := 25) dX12_put_25 g3 g4 ?_
      refine r_istore (pc := 26) (L' := [(6, vI (I a2 (Int32.toNatClampNeg x1))), (0, vR (some t)), (1, vI x1), (2, vI x2), (3, vI x3), (4, vL x4)]) dX12_put_26 (by decide) rfl ?_
      refine r_aload_n (pc := 28) dX12_put_28 rfl 1 rfl ?_
      refine r_iload (pc := 29) dX12_put_29 0 rfl ?_
      refine r_iload_n (pc := 31) dX12_put_31 rfl 3 rfl ?_
      refine r_iload_n (pc := 32) dX12_put_32 rfl 4 rfl ?_
      obtain ⟨r6, hc7, h⟩ := ob h
      refine r_callV1 (pc := 33) (av := [vI (I a2 (Int32.toNatClampNeg x1)), vI x2, vI x3]) (S := []) dX12_put_33 (kX12_against hc7) g1 rfl mkX12_369 mwX12_against rfl ⟨Nat.le_of_ble_eq_true rfl, Nat.le_of_ble_eq_true rfl⟩ (Nat.le_of_ble_eq_true rfl) ⟨Nat.le_refl _, Nat.le_refl _⟩ (fun b => b) ?_
      refine r_istore (pc := 36) (L' := [(7, vI r6), (6, vI (I a2 (Int32.toNatClampNeg x1))), (0, vR (some t)), (1, vI x1), (2, vI x2), (3, vI x3), (4, vL x4)]) dX12_put_36 (by decide) rfl ?_
      refine r_iload (pc := 38) dX12_put_38 0 rfl ?_
      refine r_if_eq (pc := 40) (tgt := 50) dX12_put_40 rfl (fun c => ?_) (fun c => ?_)
      · have h := it h c
        refine r_aload_n (pc := 50) dX12_put_50 rfl 2 rfl ?_
        obtain ⟨a8, ha8, h⟩ := ob h
        refine r_getS (pc := 51) dX12_put_51 fgX12_26 rfl g1 ha8 ?_
        refine r_aload_n (pc := 54) dX12_put_54 rfl 2 rfl ?_
        obtain ⟨a9, ha9, h⟩ := ob h
        refine r_getS (pc := 55) dX12_put_55 fgX12_22 rfl g1 ha9 ?_
        refine r_iload (pc := 58) dX12_put_58 1 rfl ?_
        obtain ⟨g10, h⟩ := gd h
        obtain ⟨g11, h⟩ := gd h
        refine r_iaload (pc := 60) dX12_put_60 g10 g11 ?_
        refine r_iload_n (pc := 61) dX12_put_61 rfl 5 rfl ?_
        refine r_iadd (pc := 62) dX12_put_62 ?_
        refine r_iload_n (pc := 63) dX12_put_63 rfl 4 rfl ?_
        refine r_lload (pc := 64) dX12_put_64 6 rfl ?_
        refine r_callS1 (pc := 66) (av := [vI x2, vL x4]) (S := [vI ((I a9 (Int32.toNatClampNeg (I a2 (Int32.toNatClampNeg x1)))) + x3), vR (some a8)]) dX12_put_66 (kX12_fitted rfl) mkX12_377 mwX12_fitted rfl ⟨Nat.le_of_ble_eq_true rfl, Nat.le_of_ble_eq_true rfl⟩ (Nat.le_of_ble_eq_true rfl) ⟨Nat.le_refl _, Nat.le_refl _⟩ (fun b => b) ?_
        obtain ⟨g12, h⟩ := gd h
        obtain ⟨g13, h⟩ := gd h
        refine r_lastore (pc := 69) dX12_put_69 g12 g13 ?_
        refine r_iconst (pc := 70) dX12_put_70 kc_iconst_1 ?_
        cases h
        exact r_iret dX12_put_71
      · have h := ie h c
        refine r_aload_n (pc := 43) dX12_put_43 rfl 2 rfl ?_
        refine r_iload (pc := 44) dX12_put_44 0 rfl ?_
        obtain ⟨⟨I15, r16⟩, hc17, h⟩ := ob h
        refine r_callV1 (pc := 46) (av := [vI r6]) (S := []) dX12_put_46 (kX12_no hc17) g1 rfl mkX12_308 mwX12_no rfl ⟨Nat.le_of_ble_eq_true rfl, Nat.le_of_ble_eq_true rfl⟩ (Nat.le_of_ble_eq_true rfl) ⟨Nat.le_refl _, Nat.le_refl _⟩ (fun b => b) ?_
        cases h
        exact r_iret dX12_put_49
    · have h := it h c
      refine r_bipush (pc := 17) dX12_put_17 kc_bipush_m2 ?_
      cases h
      exact r_iret dX12_put_19
abbrev WX12_againstBed (G : Gx) (l : Launch) (σ0 : Shp) (X1 : Stt) (rv : Option SV) : Stt → Nat → List (Nat × SV) → List SV → Prop := Wm G l yX12_againstBed cX12_againstBed 7 (some .int) (fun _ => True) (rmx 3 67 σ0 X1.1) σ0 (Qmx G σ0 X1 rv)
def fX12_againstBed (σ : Shp) (I : Nat → Nat → Int32) (R : Nat → Nat → Option Nat) (t : Nat) (x1 : Int32) (x2 : Int32) (x3 : Int32) (x4 : Int32) : Option ((Nat → Nat → Int32) × (Int32)) :=
  if kdx σ t = 13 then
  (fX12_against σ I R t x1 x2 x3).bind fun r2 =>
  if r2 = 0 then
    ((R t 10) : Option Nat).bind fun a4 =>
    ((R t 6) : Option Nat).bind fun a5 =>
    if kdx σ a5 = 20 then
    if ¬ (x1 < 0 ∨ lnx σ a5 ≤ Int32.toNatClampNeg x1) then
    if kdx σ a4 = 23 then
    if ¬ (((I a5 (Int32.toNatClampNeg x1)) + x3) < 0 ∨ lnx σ a4 ≤ Int32.toNatClampNeg ((I a5 (Int32.toNatClampNeg x1)) + x3)) then
    let v10 := (I a4 (Int32.toNatClampNeg ((I a5 (Int32.toNatClampNeg x1)) + x3)))
    (fX12_looked σ I R t v10 x4).bind fun r11 =>
    if ¬ (v10 < 0 ∨ lnx σ a5 ≤ Int32.toNatClampNeg v10) then
    let I14 := u2 I t 20 ((I a5 (Int32.toNatClampNeg v10)) + x4)
    some (I14, r11)
    else none
    else none
    else none
    else none
    else none
  else
    some (I, r2)
  else none
theorem kX12_againstBed {G : Gx} {l : Launch} {σ : Shp} {I : Nat → Nat → Int32} {J : Nat → Nat → Int64} {D : Nat → Nat → UInt64} {R : Nat → Nat → Option Nat} {t : Nat} {x1 : Int32} {x2 : Int32} {x3 : Int32} {x4 : Int32} {I9 : Nat → Nat → Int32} {r9 : Int32} (h : fX12_againstBed σ I R t x1 x2 x3 x4 = some (I9, r9)) : Con G l yX12_againstBed cX12_againstBed 7 (some .int) 3 67 [vR (some t), vI x1, vI x2, vI x3, vI x4] (σ, I, J, D, R) (σ, I9, J, D, R) (some (vI r9)) := by
  unfold fX12_againstBed at h
  refine Con.mk (by decide +kernel) rfl (Nat.le_of_ble_eq_true rfl) ?_
  show WX12_againstBed G l σ (σ, I9, J, D, R) (some (vI r9)) (σ, I, J, D, R) 0 _ []
  refine r_aload_n (pc := 0) dX12_againstBed_0 rfl 0 rfl ?_
  refine r_iload_n (pc := 1) dX12_againstBed_1 rfl 1 rfl ?_
  refine r_iload_n (pc := 2) dX12_againstBed_2 rfl 2 rfl ?_
  refine r_iload_n (pc := 3) dX12_againstBed_3 rfl 3 rfl ?_
  obtain ⟨g1, h⟩ := gd h
  obtain ⟨r2, hc3, h⟩ := ob h
  refine r_callV1 (pc := 4) (av := [vI x1, vI x2, vI x3]) (S := []) dX12_againstBed_4 (kX12_against hc3) g1 rfl mkX12_369 mwX12_against rfl ⟨Nat.le_of_ble_eq_true rfl, Nat.le_of_ble_eq_true rfl⟩ (Nat.le_of_ble_eq_true rfl) ⟨Nat.le_refl _, Nat.le_refl _⟩ (fun b => b) ?_
  refine r_istore (pc := 7) (L' := [(5, vI r2), (0, vR (some t)), (1, vI x1), (2, vI x2), (3, vI x3), (4, vI x4)]) dX12_againstBed_7 (by decide) rfl ?_
  refine r_iload (pc := 9) dX12_againstBed_9 0 rfl ?_
  refine r_if_eq (pc := 11) (tgt := 17) dX12_againstBed_11 rfl (fun c => ?_) (fun c => ?_)
  · have h := it h c
    refine r_aload_n (pc := 17) dX12_againstBed_17 rfl 1 rfl ?_
    obtain ⟨a4, ha4, h⟩ := ob h
    refine r_getS (pc := 18) dX12_againstBed_18 fgX12_31 rfl g1 ha4 ?_
    refine r_aload_n (pc := 21) dX12_againstBed_21 rfl 1 rfl ?_
    obtain ⟨a5, ha5, h⟩ := ob h
    refine r_getS (pc := 22) dX12_againstBed_22 fgX12_22 rfl g1 ha5 ?_
    refine r_iload_n (pc := 25) dX12_againstBed_25 rfl 2 rfl ?_
    obtain ⟨g6, h⟩ := gd h
    obtain ⟨g7, h⟩ := gd h
    refine r_iaload (pc := 26) dX12_againstBed_26 g6 g7 ?_
    refine r_iload_n (pc := 27) dX12_againstBed_27 rfl 4 rfl ?_
    refine r_iadd (pc := 28) dX12_againstBed_28 ?_
    obtain ⟨g8, h⟩ := gd h
    obtain ⟨g9, h⟩ := gd h
    refine r_saload (pc := 29) dX12_againstBed_29 g8 g9 ?_
    refine r_istore (pc := 30) (L' := [(6, vI (I a4 (Int32.toNatClampNeg ((I a5 (Int32.toNatClampNeg x1)) + x3)))), (5, vI r2), (0, vR (some t)), (1, vI x1), (2, vI x2), (3, vI x3), (4, vI x4)]) dX12_againstBed_30 (by decide) rfl ?_
    refine r_aload_n (pc := 32) dX12_againstBed_32 rfl 2 rfl ?_
    refine r_iload (pc := 33) dX12_againstBed_33 0 rfl ?_
    refine r_iload (pc := 35) dX12_againstBed_35 6 rfl ?_
    obtain ⟨r11, hc12, h⟩ := ob h
    refine r_callV1 (pc := 37) (av := [vI (I a4 (Int32.toNatClampNeg ((I a5 (Int32.toNatClampNeg x1)) + x3))), vI x4]) (S := []) dX12_againstBed_37 (kX12_looked hc12) g1 rfl mkX12_366 mwX12_looked rfl ⟨Nat.le_of_ble_eq_true rfl, Nat.le_of_ble_eq_true rfl⟩ (Nat.le_of_ble_eq_true rfl) ⟨Nat.le_refl _, Nat.le_refl _⟩ (fun b => b) ?_
    refine r_istore (pc := 40) (L' := [(5, vI r11), (6, vI (I a4 (Int32.toNatClampNeg ((I a5 (Int32.toNatClampNeg x1)) + x3)))), (0, vR (some t)), (1, vI x1), (2, vI x2), (3, vI x3), (4, vI x4)]) dX12_againstBed_40 (by decide) rfl ?_
    refine r_aload_n (pc := 42) dX12_againstBed_42 rfl 2 rfl ?_
    refine r_aload_n (pc := 43) dX12_againstBed_43 rfl 2 rfl ?_
    refine r_getS (pc := 44) dX12_againstBed_44 fgX12_22 rfl g1 ha5 ?_
    refine r_iload (pc := 47) dX12_againstBed_47 1 rfl ?_
    obtain ⟨g13, h⟩ := gd h
    refine r_iaload (pc := 49) dX12_againstBed_49 g6 g13 ?_
    refine r_iload (pc := 50) dX12_againstBed_50 6 rfl ?_
    refine r_iadd (pc := 52) dX12_againstBed_52 ?_
    refine r_putI (pc := 53) dX12_againstBed_53 fwX12_381 rfl g1 ?_
    refine r_iload (pc := 56) dX12_againstBed_56 0 rfl ?_
    cases h
    exact r_iret dX12_againstBed_58
  · have h := ie h c
    refine r_iload (pc := 14) dX12_againstBed_14 0 rfl ?_
    cases h
    exact r_iret dX12_againstBed_16
abbrev WX12_bed (G : Gx) (l : Launch) (σ0 : Shp) (X1 : Stt) (rv : Option SV) : Stt → Nat → List (Nat × SV) → List SV → Prop := Wm G l yX12_bed cX12_bed 6 (some .long) (fun _ => True) (rmx 4 93 σ0 X1.1) σ0 (Qmx G σ0 X1 rv)
def fX12_bed (σ : Shp) (I : Nat → Nat → Int32) (J : Nat → Nat → Int64) (R : Nat → Nat → Option Nat) (t : Nat) (x1 : Int32) (x2 : Int32) (x3 : Int32) (x4 : Int32) : Option ((Nat → Nat → Int32) × (Int64)) :=
  if (fX12_isBin x1) = 0 then
    some (I, (0 : Int64))
  else
    if (fX12_in x2 (8 : Int32) (10 : Int32)) = 0 then
      some (I, (0 : Int64))
    else
      if kdx σ t = 13 then
      ((R t 3) : Option Nat).bind fun a2 =>
      if kdx σ a2 = 20 then
      if ¬ (x1 < 0 ∨ lnx σ a2 ≤ Int32.toNatClampNeg x1) then
      (fX12_againstBed σ I R t (I a2 (Int32.toNatClampNeg x1)) x2 x3 x4).bind fun (I5, r6) =>
      if r6 = 0 then
        ((R t 8) : Option Nat).bind fun a8 =>
        if kdx σ a8 = 21 then
        if ¬ ((I5 t 20) < 0 ∨ lnx σ a8 ≤ Int32.toNatClampNeg (I5 t 20)) then
        some (I5, (J a8 (Int32.toNatClampNeg (I5 t 20))))
        else none
        else none
      else
        (fX12_noBits σ I5 t r6).bind fun (I11, r12) =>
        some (I11, r12)
      else none
      else none
      else none
theorem kX12_bed {G : Gx} {l : Launch} {σ : Shp} {I : Nat → Nat → Int32} {J : Nat → Nat → Int64} {D : Nat → Nat → UInt64} {R : Nat → Nat → Option Nat} {t : Nat} {x1 : Int32} {x2 : Int32} {x3 : Int32} {x4 : Int32} {I9 : Nat → Nat → Int32} {r9 : Int64} (h : fX12_bed σ I J R t x1 x2 x3 x4 = some (I9, r9)) : Con G l yX12_bed cX12_bed 6 (some .long) 4 93 [vR (some t), vI x1, vI x2, vI x3, vI x4] (σ, I, J, D, R) (σ, I9, J, D, R) (some (vL r9)) := by
  unfold fX12_bed at h
  refine Con.mk (by decide +kernel) rfl (Nat.le_of_ble_eq_true rfl) ?_
  show WX12_bed G l σ (σ, I9, J, D, R) (some (vL r9)) (σ, I, J, D, R) 0 _ []
  refine r_iload_n (pc := 0) dX12_bed_0 rfl 1 rfl ?_
  refine r_callS1 (pc := 1) (av := [vI x1]) (S := []) dX12_bed_1 (kX12_isBin rfl) mkX12_345 mwX12_isBin rfl ⟨Nat.le_of_ble_eq_true rfl, Nat.le_of_ble_eq_true rfl⟩ (Nat.le_of_ble_eq_true rfl) ⟨Nat.le_refl _, Nat.le_refl _⟩ (fun b => b) ?_
  refine r_if_eq (pc := 4) (tgt := 18) dX12_bed_4 rfl (fun c => ?_) (fun c => ?_)
  · have h := it h c
    refine r_lconst (pc := 18) dX12_bed_18 kc_lconst_0 ?_
    cases h
    exact r_lret dX12_bed_19
  · have h := ie h c
    refine r_iload_n (pc := 7) dX12_bed_7 rfl 2 rfl ?_
    refine r_bipush (pc := 8) dX12_bed_8 kc_bipush_8 ?_
    refine r_bipush (pc := 10) dX12_bed_10 kc_bipush_10 ?_
    refine r_callS1 (pc := 12) (av := [vI x2, vI (8 : Int32), vI (10 : Int32)]) (S := []) dX12_bed_12 (kX12_in rfl) mkX12_322 mwX12_in rfl ⟨Nat.le_of_ble_eq_true rfl, Nat.le_of_ble_eq_true rfl⟩ (Nat.le_of_ble_eq_true rfl) ⟨Nat.le_refl _, Nat.le_refl _⟩ (fun b => b) ?_
    refine r_ifne (pc := 15) (tgt := 20) dX12_bed_15 rfl (fun c => ?_) (fun c => ?_)
    · have h := ie h c
      refine r_aload_n (pc := 20) dX12_bed_20 rfl 0 rfl ?_
      refine r_aload_n (pc := 21) dX12_bed_21 rfl 0 rfl ?_
      obtain ⟨g1, h⟩ := gd h
      obtain ⟨a2, ha2, h⟩ := ob h
      refine r_getS (pc := 22) dX12_bed_22 fgX12_9 rfl g1 ha2 ?_
      refine r_iload_n (pc := 25) dX12_bed_25 rfl 1 rfl ?_
      obtain ⟨g3, h⟩ := gd h
      obtain ⟨g4, h⟩ := gd h
      refine r_iaload (pc := 26) dX12_bed_26 g3 g4 ?_
      refine r_iload_n (pc := 27) dX12_bed_27 rfl 2 rfl ?_
      refine r_iload_n (pc := 28) dX12_bed_28 rfl 3 rfl ?_
      refine r_iload (pc := 29) dX12_bed_29 4 rfl ?_
      obtain ⟨⟨I5, r6⟩, hc7, h⟩ := ob h
      refine r_callV1 (pc := 31) (av := [vI (I a2 (Int32.toNatClampNeg x1)), vI x2, vI x3, vI x4]) (S := []) dX12_bed_31 (kX12_againstBed hc7) g1 rfl mkX12_384 mwX12_againstBed rfl ⟨Nat.le_of_ble_eq_true rfl, Nat.le_of_ble_eq_true rfl⟩ (Nat.le_of_ble_eq_true rfl) ⟨Nat.le_refl _, Nat.le_refl _⟩ (fun b => b) ?_
      refine r_istore (pc := 34) (L' := [(5, vI r6), (0, vR (some t)), (1, vI x1), (2, vI x2), (3, vI x3), (4, vI x4)]) dX12_bed_34 (by decide) rfl ?_
      refine r_iload (pc := 36) dX12_bed_36 0 rfl ?_
      refine r_if_eq (pc := 38) (tgt := 50) dX12_bed_38 rfl (fun c => ?_) (fun c => ?_)
      · have h := it h c
        refine r_aload_n (pc := 50) dX12_bed_50 rfl 1 rfl ?_
        obtain ⟨a8, ha8, h⟩ := ob h
        refine r_getS (pc := 51) dX12_bed_51 fgX12_26 rfl g1 ha8 ?_
        refine r_aload_n (pc := 54) dX12_bed_54 rfl 1 rfl ?_
        refine r_getI (pc := 55) dX12_bed_55 fgX12_381 rfl g1 ?_
        obtain ⟨g9, h⟩ := gd h
        obtain ⟨g10, h⟩ := gd h
        refine r_laload (pc := 58) dX12_bed_58 g9 g10 ?_
        cases h
        exact r_lret dX12_bed_59
      · have h := ie h c
        refine r_aload_n (pc := 41) dX12_bed_41 rfl 1 rfl ?_
        refine r_iload (pc := 42) dX12_bed_42 0 rfl ?_
        obtain ⟨⟨I11, r12⟩, hc13, h⟩ := ob h
        refine r_callV1 (pc := 44) (av := [vI r6]) (S := []) dX12_bed_44 (kX12_noBits hc13) g1 rfl mkX12_373 mwX12_noBits rfl ⟨Nat.le_of_ble_eq_true rfl, Nat.le_of_ble_eq_true rfl⟩ (Nat.le_of_ble_eq_true rfl) ⟨Nat.le_refl _, Nat.le_refl _⟩ (fun b => b) ?_
        refine r_goto (pc := 47) (tgt := 59) dX12_bed_47 rfl ?_
        cases h
        exact r_lret dX12_bed_59
    · have h := it h c
      refine r_lconst (pc := 18) dX12_bed_18 kc_lconst_0 ?_
      cases h
      exact r_lret dX12_bed_19
abbrev WX12_setBed (G : Gx) (l : Launch) (σ0 : Shp) (X1 : Stt) (rv : Option SV) : Stt → Nat → List (Nat × SV) → List SV → Prop := Wm G l yX12_setBed cX12_setBed 8 (some .int) (fun _ => True) (rmx 4 93 σ0 X1.1) σ0 (Qmx G σ0 X1 rv)
def fX12_setBed (σ : Shp) (I : Nat → Nat → Int32) (J : Nat → Nat → Int64) (R : Nat → Nat → Option Nat) (t : Nat) (x1 : Int32) (x2 : Int32) (x3 : Int32) (x4 : Int32) (x5 : Int64) : Option ((Nat → Nat → Int32) × (Nat → Nat → Int64) × (Int32)) :=
  if (fX12_isBin x1) = 0 then
    some (I, J, (-2 : Int32))
  else
    if (fX12_in x2 (8 : Int32) (10 : Int32)) = 0 then
      some (I, J, (-2 : Int32))
    else
      if kdx σ t = 13 then
      ((R t 3) : Option Nat).bind fun a2 =>
      if kdx σ a2 = 20 then
      if ¬ (x1 < 0 ∨ lnx σ a2 ≤ Int32.toNatClampNeg x1) then
      (fX12_againstBed σ I R t (I a2 (Int32.toNatClampNeg x1)) x2 x3 x4).bind fun (I5, r6) =>
      if r6 = 0 then
        ((R t 8) : Option Nat).bind fun a8 =>
        if kdx σ a8 = 21 then
        if ¬ ((I5 t 20) < 0 ∨ lnx σ a8 ≤ Int32.toNatClampNeg (I5 t 20)) then
        let J11 := u2 J a8 (Int32.toNatClampNeg (I5 t 20)) (fX12_fitted (fX12_laneOf x2) x5)
        some (I5, J11, (1 : Int32))
        else none
        else none
      else
        (fX12_no σ I5 t r6).bind fun (I12, r13) =>
        some (I12, J, r13)
      else none
      else none
      else none
theorem kX12_setBed {G : Gx} {l : Launch} {σ : Shp} {I : Nat → Nat → Int32} {J : Nat → Nat → Int64} {D : Nat → Nat → UInt64} {R : Nat → Nat → Option Nat} {t : Nat} {x1 : Int32} {x2 : Int32} {x3 : Int32} {x4 : Int32} {x5 : Int64} {I9 : Nat → Nat → Int32} {J9 : Nat → Nat → Int64} {r9 : Int32} (h : fX12_setBed σ I J R t x1 x2 x3 x4 x5 = some (I9, J9, r9)) : Con G l yX12_setBed cX12_setBed 8 (some .int) 4 93 [vR (some t), vI x1, vI x2, vI x3, vI x4, vL x5] (σ, I, J, D, R) (σ, I9, J9, D, R) (some (vI r9)) := by
  unfold fX12_setBed at h
  refine Con.mk (by decide +kernel) rfl (Nat.le_of_ble_eq_true rfl) ?_
  show WX12_setBed G l σ (σ, I9, J9, D, R) (some (vI r9)) (σ, I, J, D, R) 0 _ []
  refine r_iload_n (pc := 0) dX12_setBed_0 rfl 1 rfl ?_
  refine r_callS1 (pc := 1) (av := [vI x1]) (S := []) dX12_setBed_1 (kX12_isBin rfl) mkX12_345 mwX12_isBin rfl ⟨Nat.le_of_ble_eq_true rfl, Nat.le_of_ble_eq_true rfl⟩ (Nat.le_of_ble_eq_true rfl) ⟨Nat.le_refl _, Nat.le_refl _⟩ (fun b => b) ?_
  refine r_if_eq (pc := 4) (tgt := 18) dX12_setBed_4 rfl (fun c => ?_) (fun c => ?_)
  · have h := it h c
    refine r_bipush (pc := 18) dX12_setBed_18 kc_bipush_m2 ?_
    cases h
    exact r_iret dX12_setBed_20
  · have h := ie h c
    refine r_iload_n (pc := 7) dX12_setBed_7 rfl 2 rfl ?_
    refine r_bipush (pc := 8) dX12_setBed_8 kc_bipush_8 ?_
    refine r_bipush (pc := 10) dX12_setBed_10 kc_bipush_10 ?_
    refine r_callS1 (pc := 12) (av := [vI x2, vI (8 : Int32), vI (10 : Int32)]) (S := []) dX12_setBed_12 (kX12_in rfl) mkX12_322 mwX12_in rfl ⟨Nat.le_of_ble_eq_true rfl, Nat.le_of_ble_eq_true rfl⟩ (Nat.le_of_ble_eq_true rfl) ⟨Nat.le_refl _, Nat.le_refl _⟩ (fun b => b) ?_
    refine r_ifne (pc := 15) (tgt := 21) dX12_setBed_15 rfl (fun c => ?_) (fun c => ?_)
    · have h := ie h c
      refine r_aload_n (pc := 21) dX12_setBed_21 rfl 0 rfl ?_
      refine r_aload_n (pc := 22) dX12_setBed_22 rfl 0 rfl ?_
      obtain ⟨g1, h⟩ := gd h
      obtain ⟨a2, ha2, h⟩ := ob h
      refine r_getS (pc := 23) dX12_setBed_23 fgX12_9 rfl g1 ha2 ?_
      refine r_iload_n (pc := 26) dX12_setBed_26 rfl 1 rfl ?_
      obtain ⟨g3, h⟩ := gd h
      obtain ⟨g4, h⟩ := gd h
      refine r_iaload (pc := 27) dX12_setBed_27 g3 g4 ?_
      refine r_iload_n (pc := 28) dX12_setBed_28 rfl 2 rfl ?_
      refine r_iload_n (pc := 29) dX12_setBed_29 rfl 3 rfl ?_
      refine r_iload (pc := 30) dX12_setBed_30 4 rfl ?_
      obtain ⟨⟨I5, r6⟩, hc7, h⟩ := ob h
      refine r_callV1 (pc := 32) (av := [vI (I a2 (Int32.toNatClampNeg x1)), vI x2, vI x3, vI x4]) (S := []) dX12_setBed_32 (kX12_againstBed hc7) g1 rfl mkX12_384 mwX12_againstBed rfl ⟨Nat.le_of_ble_eq_true rfl, Nat.le_of_ble_eq_true rfl⟩ (Nat.le_of_ble_eq_true rfl) ⟨Nat.le_refl _, Nat.le_refl _⟩ (fun b => b) ?_
      refine r_istore (pc := 35) (L' := [(7, vI r6), (0, vR (some t)), (1, vI x1), (2, vI x2), (3, vI x3), (4, vI x4), (5, vL x5)]) dX12_setBed_35 (by decide) rfl ?_
      refine r_iload (pc := 37) dX12_setBed_37 0 rfl ?_
      refine r_if_eq (pc := 39) (tgt := 49) dX12_setBed_39 rfl (fun c => ?_) (fun c => ?_)
      · have h := it h c
        refine r_aload_n (pc := 49) dX12_setBed_49 rfl 1 rfl ?_
        obtain ⟨a8, ha8, h⟩ := ob h
        refine r_getS (pc := 50) dX12_setBed_50 fgX12_26 rfl g1 ha8 ?_
        refine r_aload_n (pc := 53) dX12_setBed_53 rfl 1 rfl ?_
        refine r_getI (pc := 54) dX12_setBed_54 fgX12_381 rfl g1 ?_
        refine r_iload_n (pc := 57) dX12_setBed_57 rfl 3 rfl ?_
        refine r_callS1 (pc := 58) (av := [vI x2]) (S := [vI (I5 t 20), vR (some a8)]) dX12_setBed_58 (kX12_laneOf rfl) mkX12_326 mwX12_laneOf rfl ⟨Nat.le_of_ble_eq_true rfl, Nat.le_of_ble_eq_true rfl⟩ (Nat.le_of_ble_eq_true rfl) ⟨Nat.le_refl _, Nat.le_refl _⟩ (fun b => b) ?_
        refine r_lload (pc := 61) dX12_setBed_61 6 rfl ?_
        refine r_callS1 (pc := 63) (av := [vI (fX12_laneOf x2), vL x5]) (S := [vI (I5 t 20), vR (some a8)]) dX12_setBed_63 (kX12_fitted rfl) mkX12_377 mwX12_fitted rfl ⟨Nat.le_of_ble_eq_true rfl, Nat.le_of_ble_eq_true rfl⟩ (Nat.le_of_ble_eq_true rfl) ⟨Nat.le_refl _, Nat.le_refl _⟩ (fun b => b) ?_
        obtain ⟨g9, h⟩ := gd h
        obtain ⟨g10, h⟩ := gd h
        refine r_lastore (pc := 66) dX12_setBed_66 g9 g10 ?_
        refine r_iconst (pc := 67) dX12_setBed_67 kc_iconst_1 ?_
        cases h
        exact r_iret dX12_setBed_68
      · have h := ie h c
        refine r_aload_n (pc := 42) dX12_setBed_42 rfl 1 rfl ?_
        refine r_iload (pc := 43) dX12_setBed_43 0 rfl ?_
        obtain ⟨⟨I12, r13⟩, hc14, h⟩ := ob h
        refine r_callV1 (pc := 45) (av := [vI r6]) (S := []) dX12_setBed_45 (kX12_no hc14) g1 rfl mkX12_308 mwX12_no rfl ⟨Nat.le_of_ble_eq_true rfl, Nat.le_of_ble_eq_true rfl⟩ (Nat.le_of_ble_eq_true rfl) ⟨Nat.le_refl _, Nat.le_refl _⟩ (fun b => b) ?_
        cases h
        exact r_iret dX12_setBed_48
    · have h := it h c
      refine r_bipush (pc := 18) dX12_setBed_18 kc_bipush_m2 ?_
      cases h
      exact r_iret dX12_setBed_20
abbrev WX12_countUp (G : Gx) (l : Launch) (σ0 : Shp) (X1 : Stt) (rv : Option SV) : Stt → Nat → List (Nat × SV) → List SV → Prop := Wm G l yX12_countUp cX12_countUp 9 (some .int) (fun _ => True) (rmx 4 93 σ0 X1.1) σ0 (Qmx G σ0 X1 rv)
def fX12_countUp_b58  (σ : Shp) (R : Nat → Nat → Option Nat) (t : Nat) (I : Nat → Nat → Int32) (J : Nat → Nat → Int64) (x5 : Int32) (x7 : Int32) : Option ((Nat → Nat → Int32) × (Nat → Nat → Int64) × (Int32)) :=
  if x7 = 0 then
    if kdx σ t = 13 then
    ((R t 8) : Option Nat).bind fun a9 =>
    if kdx σ a9 = 21 then
    if ¬ ((I t 20) < 0 ∨ lnx σ a9 ≤ Int32.toNatClampNeg (I t 20)) then
    let v12 := (Int64.toInt32 (J a9 (Int32.toNatClampNeg (I t 20))))
    let J13 := u2 J a9 (Int32.toNatClampNeg (I t 20)) (Int32.toInt64 (v12 + (1 : Int32)))
    if x5 = 0 then
      some (I, J13, v12)
    else
      some (I, J13, (v12 + (1 : Int32)))
    else none
    else none
    else none
  else
    if kdx σ t = 13 then
    (fX12_no σ I t x7).bind fun (I15, r16) =>
    some (I15, J, (0 : Int32))
    else none
theorem wX12_countUp_b58 {G : Gx} {l : Launch} {σ : Shp} {I : Nat → Nat → Int32} {J : Nat → Nat → Int64} {D : Nat → Nat → UInt64} {R : Nat → Nat → Option Nat} {t : Nat} {I9 : Nat → Nat → Int32} {J9 : Nat → Nat → Int64} {r9 : Int32} {x5 : Int32} {x7 : Int32} (h : fX12_countUp_b58 σ R t I J x5 x7 = some (I9, J9, r9)) : WX12_countUp G l σ (σ, I9, J9, D, R) (some (vI r9)) (σ, I, J, D, R) 58 [(0, vR (some t)), (5, vI x5), (7, vI x7)] [] := by
  unfold fX12_countUp_b58 at h
  refine r_iload (pc := 58) dX12_countUp_58 2 rfl ?_
  refine r_if_eq (pc := 60) (tgt := 73) dX12_countUp_60 rfl (fun c => ?_) (fun c => ?_)
  · have h := it h c
    refine r_aload_n (pc := 73) dX12_countUp_73 rfl 0 rfl ?_
    obtain ⟨g8, h⟩ := gd h
    obtain ⟨a9, ha9, h⟩ := ob h
    refine r_getS (pc := 74) dX12_countUp_74 fgX12_26 rfl g8 ha9 ?_
    refine r_aload_n (pc := 77) dX12_countUp_77 rfl 0 rfl ?_
    refine r_getI (pc := 78) dX12_countUp_78 fgX12_381 rfl g8 ?_
    obtain ⟨g10, h⟩ := gd h
    obtain ⟨g11, h⟩ := gd h
    refine r_laload (pc := 81) dX12_countUp_81 g10 g11 ?_
    refine r_l2i (pc := 82) dX12_countUp_82 ?_
    refine r_istore (pc := 83) (L' := [(8, vI (Int64.toInt32 (J a9 (Int32.toNatClampNeg (I t 20))))), (0, vR (some t)), (5, vI x5), (7, vI x7)]) dX12_countUp_83 (by decide) rfl ?_
    refine r_aload_n (pc := 85) dX12_countUp_85 rfl 1 rfl ?_
    refine r_getS (pc := 86) dX12_countUp_86 fgX12_26 rfl g8 ha9 ?_
    refine r_aload_n (pc := 89) dX12_countUp_89 rfl 1 rfl ?_
    refine r_getI (pc := 90) dX12_countUp_90 fgX12_381 rfl g8 ?_
    refine r_iload (pc := 93) dX12_countUp_93 0 rfl ?_
    refine r_iconst (pc := 95) dX12_countUp_95 kc_iconst_1 ?_
    refine r_iadd (pc := 96) dX12_countUp_96 ?_
    refine r_i2l (pc := 97) dX12_countUp_97 ?_
    refine r_lastore (pc := 98) dX12_countUp_98 g10 g11 ?_
    refine r_iload (pc := 99) dX12_countUp_99 2 rfl ?_
    refine r_if_eq (pc := 101) (tgt := 111) dX12_countUp_101 rfl (fun c => ?_) (fun c => ?_)
    · have h := it h c
      refine r_iload (pc := 111) dX12_countUp_111 0 rfl ?_
      cases h
      exact r_iret dX12_countUp_113
    · have h := ie h c
      refine r_iload (pc := 104) dX12_countUp_104 0 rfl ?_
      refine r_iconst (pc := 106) dX12_countUp_106 kc_iconst_1 ?_
      refine r_iadd (pc := 107) dX12_countUp_107 ?_
      refine r_goto (pc := 108) (tgt := 113) dX12_countUp_108 rfl ?_
      cases h
      exact r_iret dX12_countUp_113
  · have h := ie h c
    refine r_aload_n (pc := 63) dX12_countUp_63 rfl 0 rfl ?_
    refine r_iload (pc := 64) dX12_countUp_64 2 rfl ?_
    obtain ⟨g14, h⟩ := gd h
    obtain ⟨⟨I15, r16⟩, hc17, h⟩ := ob h
    refine r_callV1 (pc := 66) (av := [vI x7]) (S := []) dX12_countUp_66 (kX12_no hc17) g14 rfl mkX12_308 mwX12_no rfl ⟨Nat.le_of_ble_eq_true rfl, Nat.le_of_ble_eq_true rfl⟩ (Nat.le_of_ble_eq_true rfl) ⟨Nat.le_refl _, Nat.le_refl _⟩ (fun b => b) ?_
    refine r_istore (pc := 69) (L' := [(8, vI r16), (0, vR (some t)), (5, vI x5), (7, vI x7)]) dX12_countUp_69 (by decide) rfl ?_
    refine r_iconst (pc := 71) dX12_countUp_71 kc_iconst_0 ?_
    cases h
    exact r_iret dX12_countUp_72
def fX12_countUp (σ : Shp) (I : Nat → Nat → Int32) (J : Nat → Nat → Int64) (R : Nat → Nat → Option Nat) (t : Nat) (x1 : Int32) (x2 : Int32) (x3 : Int32) (x4 : Int32) (x5 : Int32) : Option ((Nat → Nat → Int32) × (Nat → Nat → Int64) × (Int32)) :=
  if (fX12_isBin x1) = 0 then
    some (I, J, (0 : Int32))
  else
    if kdx σ t = 13 then
    ((R t 3) : Option Nat).bind fun a2 =>
    if kdx σ a2 = 20 then
    if ¬ (x1 < 0 ∨ lnx σ a2 ≤ Int32.toNatClampNeg x1) then
    let v5 := (I a2 (Int32.toNatClampNeg x1))
    (fX12_against σ I R t v5 (11 : Int32) x2).bind fun r6 =>
    if r6 = 0 then
      ((R t 10) : Option Nat).bind fun a18 =>
      ((R t 6) : Option Nat).bind fun a19 =>
      if kdx σ a19 = 20 then
      if ¬ (v5 < 0 ∨ lnx σ a19 ≤ Int32.toNatClampNeg v5) then
      if kdx σ a18 = 23 then
      if ¬ (((I a19 (Int32.toNatClampNeg v5)) + x2) < 0 ∨ lnx σ a18 ≤ Int32.toNatClampNeg ((I a19 (Int32.toNatClampNeg v5)) + x2)) then
      (fX12_againstBed σ I R t (I a18 (Int32.toNatClampNeg ((I a19 (Int32.toNatClampNeg v5)) + x2))) (9 : Int32) x3 x4).bind fun (I24, r25) =>
      fX12_countUp_b58 σ R t I24 J x5 r25
      else none
      else none
      else none
      else none
    else
      fX12_countUp_b58 σ R t I J x5 r6
    else none
    else none
    else none
theorem kX12_countUp {G : Gx} {l : Launch} {σ : Shp} {I : Nat → Nat → Int32} {J : Nat → Nat → Int64} {D : Nat → Nat → UInt64} {R : Nat → Nat → Option Nat} {t : Nat} {x1 : Int32} {x2 : Int32} {x3 : Int32} {x4 : Int32} {x5 : Int32} {I9 : Nat → Nat → Int32} {J9 : Nat → Nat → Int64} {r9 : Int32} (h : fX12_countUp σ I J R t x1 x2 x3 x4 x5 = some (I9, J9, r9)) : Con G l yX12_countUp cX12_countUp 9 (some .int) 4 93 [vR (some t), vI x1, vI x2, vI x3, vI x4, vI x5] (σ, I, J, D, R) (σ, I9, J9, D, R) (some (vI r9)) := by
  unfold fX12_countUp at h
  refine Con.mk (by decide +kernel) rfl (Nat.le_of_ble_eq_true rfl) ?_
  show WX12_countUp G l σ (σ, I9, J9, D, R) (some (vI r9)) (σ, I, J, D, R) 0 _ []
  refine r_iload_n (pc := 0) dX12_countUp_0 rfl 1 rfl ?_
  refine r_callS1 (pc := 1) (av := [vI x1]) (S := []) dX12_countUp_1 (kX12_isBin rfl) mkX12_345 mwX12_isBin rfl ⟨Nat.le_of_ble_eq_true rfl, Nat.le_of_ble_eq_true rfl⟩ (Nat.le_of_ble_eq_true rfl) ⟨Nat.le_refl _, Nat.le_refl _⟩ (fun b => b) ?_
  refine r_ifne (pc := 4) (tgt := 9) dX12_countUp_4 rfl (fun c => ?_) (fun c => ?_)
  · have h := ie h c
    refine r_aload_n (pc := 9) dX12_countUp_9 rfl 0 rfl ?_
    obtain ⟨g1, h⟩ := gd h
    obtain ⟨a2, ha2, h⟩ := ob h
    refine r_getS (pc := 10) dX12_countUp_10 fgX12_9 rfl g1 ha2 ?_
    refine r_iload_n (pc := 13) dX12_countUp_13 rfl 1 rfl ?_
    obtain ⟨g3, h⟩ := gd h
    obtain ⟨g4, h⟩ := gd h
    refine r_iaload (pc := 14) dX12_countUp_14 g3 g4 ?_
    refine r_istore (pc := 15) (L' := [(6, vI (I a2 (Int32.toNatClampNeg x1))), (0, vR (some t)), (1, vI x1), (2, vI x2), (3, vI x3), (4, vI x4), (5, vI x5)]) dX12_countUp_15 (by decide) rfl ?_
    refine r_aload_n (pc := 17) dX12_countUp_17 rfl 1 rfl ?_
    refine r_iload (pc := 18) dX12_countUp_18 0 rfl ?_
    refine r_bipush (pc := 20) dX12_countUp_20 kc_bipush_11 ?_
    refine r_iload_n (pc := 22) dX12_countUp_22 rfl 3 rfl ?_
    obtain ⟨r6, hc7, h⟩ := ob h
    refine r_callV1 (pc := 23) (av := [vI (I a2 (Int32.toNatClampNeg x1)), vI (11 : Int32), vI x2]) (S := []) dX12_countUp_23 (kX12_against hc7) g1 rfl mkX12_369 mwX12_against rfl ⟨Nat.le_of_ble_eq_true rfl, Nat.le_of_ble_eq_true rfl⟩ (Nat.le_of_ble_eq_true rfl) ⟨Nat.le_refl _, Nat.le_refl _⟩ (fun b => b) ?_
    refine r_istore (pc := 26) (L' := [(7, vI r6), (6, vI (I a2 (Int32.toNatClampNeg x1))), (0, vR (some t)), (1, vI x1), (2, vI x2), (3, vI x3), (4, vI x4), (5, vI x5)]) dX12_countUp_26 (by decide) rfl ?_
    refine r_iload (pc := 28) dX12_countUp_28 0 rfl ?_
    refine r_ifne (pc := 30) (tgt := 58) dX12_countUp_30 rfl (fun c => ?_) (fun c => ?_)
    · have h := ie h c
      refine r_sub [2, 7, 0] rfl ?_
      exact wX12_countUp_b58 h
    · have h := it h c
      refine r_aload_n (pc := 33) dX12_countUp_33 rfl 2 rfl ?_
      refine r_aload_n (pc := 34) dX12_countUp_34 rfl 2 rfl ?_
      obtain ⟨a18, ha18, h⟩ := ob h
      refine r_getS (pc := 35) dX12_countUp_35 fgX12_31 rfl g1 ha18 ?_
      refine r_aload_n (pc := 38) dX12_countUp_38 rfl 2 rfl ?_
      obtain ⟨a19, ha19, h⟩ := ob h
      refine r_getS (pc := 39) dX12_countUp_39 fgX12_22 rfl g1 ha19 ?_
      refine r_iload (pc := 42) dX12_countUp_42 1 rfl ?_
      obtain ⟨g20, h⟩ := gd h
      obtain ⟨g21, h⟩ := gd h
      refine r_iaload (pc := 44) dX12_countUp_44 g20 g21 ?_
      refine r_iload_n (pc := 45) dX12_countUp_45 rfl 4 rfl ?_
      refine r_iadd (pc := 46) dX12_countUp_46 ?_
      obtain ⟨g22, h⟩ := gd h
      obtain ⟨g23, h⟩ := gd h
      refine r_saload (pc := 47) dX12_countUp_47 g22 g23 ?_
      refine r_bipush (pc := 48) dX12_countUp_48 kc_bipush_9 ?_
      refine r_iload_n (pc := 50) dX12_countUp_50 rfl 5 rfl ?_
      refine r_iload (pc := 51) dX12_countUp_51 6 rfl ?_
      obtain ⟨⟨I24, r25⟩, hc26, h⟩ := ob h
      refine r_callV1 (pc := 53) (av := [vI (I a18 (Int32.toNatClampNeg ((I a19 (Int32.toNatClampNeg (I a2 (Int32.toNatClampNeg x1)))) + x2))), vI (9 : Int32), vI x3, vI x4]) (S := []) dX12_countUp_53 (kX12_againstBed hc26) g1 rfl mkX12_384 mwX12_againstBed rfl ⟨Nat.le_of_ble_eq_true rfl, Nat.le_of_ble_eq_true rfl⟩ (Nat.le_of_ble_eq_true rfl) ⟨Nat.le_refl _, Nat.le_refl _⟩ (fun b => b) ?_
      refine r_istore (pc := 56) (L' := [(7, vI r25), (6, vI (I a2 (Int32.toNatClampNeg x1))), (0, vR (some t)), (1, vI x1), (2, vI x2), (3, vI x3), (4, vI x4), (5, vI x5)]) dX12_countUp_56 (by decide) rfl ?_
      refine r_sub [2, 7, 0] rfl ?_
      exact wX12_countUp_b58 h
  · have h := it h c
    refine r_iconst (pc := 7) dX12_countUp_7 kc_iconst_0 ?_
    cases h
    exact r_iret dX12_countUp_8
abbrev WX12_againstPlace (G : Gx) (l : Launch) (σ0 : Shp) (X1 : Stt) (rv : Option SV) : Stt → Nat → List (Nat × SV) → List SV → Prop := Wm G l yX12_againstPlace cX12_againstPlace 3 (some .int) (fun _ => True) (rmx 2 44 σ0 X1.1) σ0 (Qmx G σ0 X1 rv)
def fX12_againstPlace (σ : Shp) (I : Nat → Nat → Int32) (R : Nat → Nat → Option Nat) (t : Nat) (x1 : Int32) (x2 : Int32) : Option ((Int32)) :=
  if x1 = 0 then
    if kdx σ t = 13 then
    (fX12_looked σ I R t x1 x2).bind fun r2 =>
    some r2
    else none
  else
    if kdx σ t = 13 then
    (fX12_hasPlaces σ I R t x1).bind fun r5 =>
    if r5 = 0 then
      some (4 : Int32)
    else
      (fX12_looked σ I R t x1 x2).bind fun r7 =>
      some r7
    else none
theorem kX12_againstPlace {G : Gx} {l : Launch} {σ : Shp} {I : Nat → Nat → Int32} {J : Nat → Nat → Int64} {D : Nat → Nat → UInt64} {R : Nat → Nat → Option Nat} {t : Nat} {x1 : Int32} {x2 : Int32} {r9 : Int32} (h : fX12_againstPlace σ I R t x1 x2 = some r9) : Con G l yX12_againstPlace cX12_againstPlace 3 (some .int) 2 44 [vR (some t), vI x1, vI x2] (σ, I, J, D, R) (σ, I, J, D, R) (some (vI r9)) := by
  unfold fX12_againstPlace at h
  refine Con.mk (by decide +kernel) rfl (Nat.le_of_ble_eq_true rfl) ?_
  show WX12_againstPlace G l σ (σ, I, J, D, R) (some (vI r9)) (σ, I, J, D, R) 0 _ []
  refine r_iload_n (pc := 0) dX12_againstPlace_0 rfl 1 rfl ?_
  refine r_if_eq (pc := 1) (tgt := 12) dX12_againstPlace_1 rfl (fun c => ?_) (fun c => ?_)
  · have h := it h c
    refine r_aload_n (pc := 12) dX12_againstPlace_12 rfl 0 rfl ?_
    refine r_iload_n (pc := 13) dX12_againstPlace_13 rfl 1 rfl ?_
    refine r_iload_n (pc := 14) dX12_againstPlace_14 rfl 2 rfl ?_
    obtain ⟨g1, h⟩ := gd h
    obtain ⟨r2, hc3, h⟩ := ob h
    refine r_callV1 (pc := 15) (av := [vI x1, vI x2]) (S := []) dX12_againstPlace_15 (kX12_looked hc3) g1 rfl mkX12_366 mwX12_looked rfl ⟨Nat.le_of_ble_eq_true rfl, Nat.le_of_ble_eq_true rfl⟩ (Nat.le_of_ble_eq_true rfl) ⟨Nat.le_refl _, Nat.le_refl _⟩ (fun b => b) ?_
    refine r_goto (pc := 18) (tgt := 22) dX12_againstPlace_18 rfl ?_
    cases h
    exact r_iret dX12_againstPlace_22
  · have h := ie h c
    refine r_aload_n (pc := 4) dX12_againstPlace_4 rfl 0 rfl ?_
    refine r_iload_n (pc := 5) dX12_againstPlace_5 rfl 1 rfl ?_
    obtain ⟨g4, h⟩ := gd h
    obtain ⟨r5, hc6, h⟩ := ob h
    refine r_callV1 (pc := 6) (av := [vI x1]) (S := []) dX12_againstPlace_6 (kX12_hasPlaces hc6) g4 rfl mkX12_387 mwX12_hasPlaces rfl ⟨Nat.le_of_ble_eq_true rfl, Nat.le_of_ble_eq_true rfl⟩ (Nat.le_of_ble_eq_true rfl) ⟨Nat.le_refl _, Nat.le_refl _⟩ (fun b => b) ?_
    refine r_if_eq (pc := 9) (tgt := 21) dX12_againstPlace_9 rfl (fun c => ?_) (fun c => ?_)
    · have h := it h c
      refine r_iconst (pc := 21) dX12_againstPlace_21 kc_iconst_4 ?_
      cases h
      exact r_iret dX12_againstPlace_22
    · have h := ie h c
      refine r_aload_n (pc := 12) dX12_againstPlace_12 rfl 0 rfl ?_
      refine r_iload_n (pc := 13) dX12_againstPlace_13 rfl 1 rfl ?_
      refine r_iload_n (pc := 14) dX12_againstPlace_14 rfl 2 rfl ?_
      obtain ⟨r7, hc8, h⟩ := ob h
      refine r_callV1 (pc := 15) (av := [vI x1, vI x2]) (S := []) dX12_againstPlace_15 (kX12_looked hc8) g4 rfl mkX12_366 mwX12_looked rfl ⟨Nat.le_of_ble_eq_true rfl, Nat.le_of_ble_eq_true rfl⟩ (Nat.le_of_ble_eq_true rfl) ⟨Nat.le_refl _, Nat.le_refl _⟩ (fun b => b) ?_
      refine r_goto (pc := 18) (tgt := 22) dX12_againstPlace_18 rfl ?_
      cases h
      exact r_iret dX12_againstPlace_22
abbrev WX12_set (G : Gx) (l : Launch) (σ0 : Shp) (X1 : Stt) (rv : Option SV) : Stt → Nat → List (Nat × SV) → List SV → Prop := Wm G l yX12_set cX12_set 6 (some .int) (fun _ => True) (rmx 3 66 σ0 X1.1) σ0 (Qmx G σ0 X1 rv)
def fX12_set_b65  (σ : Shp) (R : Nat → Nat → Option Nat) (t : Nat) (I : Nat → Nat → Int32) (x2 : Int32) (x3 : Int32) (x4 : Int32) (s0 : Int32) : Option ((Nat → Nat → Int32) × (Int32)) :=
  if s0 = 0 then
    if kdx σ t = 13 then
    ((R t 10) : Option Nat).bind fun a9 =>
    ((R t 6) : Option Nat).bind fun a10 =>
    if kdx σ a10 = 20 then
    if ¬ (x4 < 0 ∨ lnx σ a10 ≤ Int32.toNatClampNeg x4) then
    ((R t 3) : Option Nat).bind fun a13 =>
    if kdx σ a13 = 20 then
    if ¬ (x3 < 0 ∨ lnx σ a13 ≤ Int32.toNatClampNeg x3) then
    if kdx σ a9 = 23 then
    if ¬ (((I a10 (Int32.toNatClampNeg x4)) + x2) < 0 ∨ lnx σ a9 ≤ Int32.toNatClampNeg ((I a10 (Int32.toNatClampNeg x4)) + x2)) then
    let I18 := u2 I a9 (Int32.toNatClampNeg ((I a10 (Int32.toNatClampNeg x4)) + x2)) ((Int32.toInt16 ((Int32.toInt16 (I a13 (Int32.toNatClampNeg x3))).toInt32)).toInt32)
    some (I18, (1 : Int32))
    else none
    else none
    else none
    else none
    else none
    else none
    else none
  else
    if kdx σ t = 13 then
    (fX12_no σ I t s0).bind fun (I20, r21) =>
    some (I20, r21)
    else none
theorem wX12_set_b65 {G : Gx} {l : Launch} {σ : Shp} {I : Nat → Nat → Int32} {J : Nat → Nat → Int64} {D : Nat → Nat → UInt64} {R : Nat → Nat → Option Nat} {t : Nat} {I9 : Nat → Nat → Int32} {r9 : Int32} {x2 : Int32} {x3 : Int32} {x4 : Int32} {s0 : Int32} (h : fX12_set_b65 σ R t I x2 x3 x4 s0 = some (I9, r9)) : WX12_set G l σ (σ, I9, J, D, R) (some (vI r9)) (σ, I, J, D, R) 65 [(0, vR (some t)), (2, vI x2), (3, vI x3), (4, vI x4)] [vI s0] := by
  unfold fX12_set_b65 at h
  refine r_istore (pc := 65) (L' := [(5, vI s0), (0, vR (some t)), (2, vI x2), (3, vI x3), (4, vI x4)]) dX12_set_65 (by decide) rfl ?_
  refine r_iload (pc := 67) dX12_set_67 0 rfl ?_
  refine r_if_eq (pc := 69) (tgt := 79) dX12_set_69 rfl (fun c => ?_) (fun c => ?_)
  · have h := it h c
    refine r_aload_n (pc := 79) dX12_set_79 rfl 1 rfl ?_
    obtain ⟨g8, h⟩ := gd h
    obtain ⟨a9, ha9, h⟩ := ob h
    refine r_getS (pc := 80) dX12_set_80 fgX12_31 rfl g8 ha9 ?_
    refine r_aload_n (pc := 83) dX12_set_83 rfl 1 rfl ?_
    obtain ⟨a10, ha10, h⟩ := ob h
    refine r_getS (pc := 84) dX12_set_84 fgX12_22 rfl g8 ha10 ?_
    refine r_iload (pc := 87) dX12_set_87 4 rfl ?_
    obtain ⟨g11, h⟩ := gd h
    obtain ⟨g12, h⟩ := gd h
    refine r_iaload (pc := 89) dX12_set_89 g11 g12 ?_
    refine r_iload_n (pc := 90) dX12_set_90 rfl 2 rfl ?_
    refine r_iadd (pc := 91) dX12_set_91 ?_
    refine r_aload_n (pc := 92) dX12_set_92 rfl 1 rfl ?_
    obtain ⟨a13, ha13, h⟩ := ob h
    refine r_getS (pc := 93) dX12_set_93 fgX12_9 rfl g8 ha13 ?_
    refine r_iload_n (pc := 96) dX12_set_96 rfl 3 rfl ?_
    obtain ⟨g14, h⟩ := gd h
    obtain ⟨g15, h⟩ := gd h
    refine r_iaload (pc := 97) dX12_set_97 g14 g15 ?_
    refine r_i2s (pc := 98) dX12_set_98 ?_
    obtain ⟨g16, h⟩ := gd h
    obtain ⟨g17, h⟩ := gd h
    refine r_sastore (pc := 99) dX12_set_99 g16 g17 ?_
    refine r_iconst (pc := 100) dX12_set_100 kc_iconst_1 ?_
    cases h
    exact r_iret dX12_set_101
  · have h := ie h c
    refine r_aload_n (pc := 72) dX12_set_72 rfl 1 rfl ?_
    refine r_iload (pc := 73) dX12_set_73 0 rfl ?_
    obtain ⟨g19, h⟩ := gd h
    obtain ⟨⟨I20, r21⟩, hc22, h⟩ := ob h
    refine r_callV1 (pc := 75) (av := [vI s0]) (S := []) dX12_set_75 (kX12_no hc22) g19 rfl mkX12_308 mwX12_no rfl ⟨Nat.le_of_ble_eq_true rfl, Nat.le_of_ble_eq_true rfl⟩ (Nat.le_of_ble_eq_true rfl) ⟨Nat.le_refl _, Nat.le_refl _⟩ (fun b => b) ?_
    cases h
    exact r_iret dX12_set_78
def fX12_set (σ : Shp) (I : Nat → Nat → Int32) (R : Nat → Nat → Option Nat) (t : Nat) (x1 : Int32) (x2 : Int32) (x3 : Int32) : Option ((Nat → Nat → Int32) × (Int32)) :=
  if (fX12_isBin x1) = 0 then
    some (I, (-2 : Int32))
  else
    if (fX12_isBin x3) = 0 then
      some (I, (-2 : Int32))
    else
      if kdx σ t = 13 then
      ((R t 3) : Option Nat).bind fun a2 =>
      if kdx σ a2 = 20 then
      if ¬ (x1 < 0 ∨ lnx σ a2 ≤ Int32.toNatClampNeg x1) then
      let v5 := (I a2 (Int32.toNatClampNeg x1))
      (fX12_againstPlace σ I R t v5 x2).bind fun r6 =>
      if r6 = 0 then
        ((R t 4) : Option Nat).bind fun a23 =>
        if kdx σ a23 = 22 then
        if ¬ (v5 < 0 ∨ lnx σ a23 ≤ Int32.toNatClampNeg v5) then
        if ¬ (x3 < 0 ∨ lnx σ a2 ≤ Int32.toNatClampNeg x3) then
        (fX12_isFor σ I R t (I a23 (Int32.toNatClampNeg v5)) (I a2 (Int32.toNatClampNeg x3))).bind fun r27 =>
        if r27 = 0 then
          fX12_set_b65 σ R t I x2 x3 v5 (5 : Int32)
        else
          fX12_set_b65 σ R t I x2 x3 v5 r6
        else none
        else none
        else none
      else
        fX12_set_b65 σ R t I x2 x3 v5 r6
      else none
      else none
      else none
theorem kX12_set {G : Gx} {l : Launch} {σ : Shp} {I : Nat → Nat → Int32} {J : Nat → Nat → Int64} {D : Nat → Nat → UInt64} {R : Nat → Nat → Option Nat} {t : Nat} {x1 : Int32} {x2 : Int32} {x3 : Int32} {I9 : Nat → Nat → Int32} {r9 : Int32} (h : fX12_set σ I R t x1 x2 x3 = some (I9, r9)) : Con G l yX12_set cX12_set 6 (some .int) 3 66 [vR (some t), vI x1, vI x2, vI x3] (σ, I, J, D, R) (σ, I9, J, D, R) (some (vI r9)) := by
  unfold fX12_set at h
  refine Con.mk (by decide +kernel) rfl (Nat.le_of_ble_eq_true rfl) ?_
  show WX12_set G l σ (σ, I9, J, D, R) (some (vI r9)) (σ, I, J, D, R) 0 _ []
  refine r_iload_n (pc := 0) dX12_set_0 rfl 1 rfl ?_
  refine r_callS1 (pc := 1) (av := [vI x1]) (S := []) dX12_set_1 (kX12_isBin rfl) mkX12_345 mwX12_isBin rfl ⟨Nat.le_of_ble_eq_true rfl, Nat.le_of_ble_eq_true rfl⟩ (Nat.le_of_ble_eq_true rfl) ⟨Nat.le_refl _, Nat.le_refl _⟩ (fun b => b) ?_
  refine r_if_eq (pc := 4) (tgt := 14) dX12_set_4 rfl (fun c => ?_) (fun c => ?_)
  · have h := it h c
    refine r_bipush (pc := 14) dX12_set_14 kc_bipush_m2 ?_
    cases h
    exact r_iret dX12_set_16
  · have h := ie h c
    refine r_iload_n (pc := 7) dX12_set_7 rfl 3 rfl ?_
    refine r_callS1 (pc := 8) (av := [vI x3]) (S := []) dX12_set_8 (kX12_isBin rfl) mkX12_345 mwX12_isBin rfl ⟨Nat.le_of_ble_eq_true rfl, Nat.le_of_ble_eq_true rfl⟩ (Nat.le_of_ble_eq_true rfl) ⟨Nat.le_refl _, Nat.le_refl _⟩ (fun b => b) ?_
    refine r_ifne (pc := 11) (tgt := 17) dX12_set_11 rfl (fun c => ?_) (fun c => ?_)
    · have h := ie h c
      refine r_aload_n (pc := 17) dX12_set_17 rfl 0 rfl ?_
      obtain ⟨g1, h⟩ := gd h
      obtain ⟨a2, ha2, h⟩ := ob h
      refine r_getS (pc := 18) dX12_set_18 fgX12_9 rfl g1 ha2 ?_
      refine r_iload_n (pc := 21) dX12_set_21 rfl 1 rfl ?_
      obtain ⟨g3, h⟩ := gd h
      obtain ⟨g4, h⟩ := gd h
      refine r_iaload (pc := 22) dX12_set_22 g3 g4 ?_
      refine r_istore (pc := 23) (L' := [(4, vI (I a2 (Int32.toNatClampNeg x1))), (0, vR (some t)), (1, vI x1), (2, vI x2), (3, vI x3)]) dX12_set_23 (by decide) rfl ?_
      refine r_aload_n (pc := 25) dX12_set_25 rfl 1 rfl ?_
      refine r_iload (pc := 26) dX12_set_26 0 rfl ?_
      refine r_iload_n (pc := 28) dX12_set_28 rfl 3 rfl ?_
      obtain ⟨r6, hc7, h⟩ := ob h
      refine r_callV1 (pc := 29) (av := [vI (I a2 (Int32.toNatClampNeg x1)), vI x2]) (S := []) dX12_set_29 (kX12_againstPlace hc7) g1 rfl mkX12_390 mwX12_againstPlace rfl ⟨Nat.le_of_ble_eq_true rfl, Nat.le_of_ble_eq_true rfl⟩ (Nat.le_of_ble_eq_true rfl) ⟨Nat.le_refl _, Nat.le_refl _⟩ (fun b => b) ?_
      refine r_istore (pc := 32) (L' := [(5, vI r6), (4, vI (I a2 (Int32.toNatClampNeg x1))), (0, vR (some t)), (1, vI x1), (2, vI x2), (3, vI x3)]) dX12_set_32 (by decide) rfl ?_
      refine r_iload (pc := 34) dX12_set_34 0 rfl ?_
      refine r_ifne (pc := 36) (tgt := 63) dX12_set_36 rfl (fun c => ?_) (fun c => ?_)
      · have h := ie h c
        refine r_iload (pc := 63) dX12_set_63 0 rfl ?_
        refine r_sub [2, 4, 5, 1] rfl ?_
        exact wX12_set_b65 h
      · have h := it h c
        refine r_aload_n (pc := 39) dX12_set_39 rfl 2 rfl ?_
        refine r_aload_n (pc := 40) dX12_set_40 rfl 2 rfl ?_
        obtain ⟨a23, ha23, h⟩ := ob h
        refine r_getS (pc := 41) dX12_set_41 fgX12_15 rfl g1 ha23 ?_
        refine r_iload (pc := 44) dX12_set_44 1 rfl ?_
        obtain ⟨g24, h⟩ := gd h
        obtain ⟨g25, h⟩ := gd h
        refine r_baload (pc := 46) dX12_set_46 g24 g25 ?_
        refine r_aload_n (pc := 47) dX12_set_47 rfl 2 rfl ?_
        refine r_getS (pc := 48) dX12_set_48 fgX12_9 rfl g1 ha2 ?_
        refine r_iload_n (pc := 51) dX12_set_51 rfl 5 rfl ?_
        obtain ⟨g26, h⟩ := gd h
        refine r_iaload (pc := 52) dX12_set_52 g3 g26 ?_
        obtain ⟨r27, hc28, h⟩ := ob h
        refine r_callV1 (pc := 53) (av := [vI (I a23 (Int32.toNatClampNeg (I a2 (Int32.toNatClampNeg x1)))), vI (I a2 (Int32.toNatClampNeg x3))]) (S := []) dX12_set_53 (kX12_isFor hc28) g1 rfl mkX12_393 mwX12_isFor rfl ⟨Nat.le_of_ble_eq_true rfl, Nat.le_of_ble_eq_true rfl⟩ (Nat.le_of_ble_eq_true rfl) ⟨Nat.le_refl _, Nat.le_refl _⟩ (fun b => b) ?_
        refine r_ifne (pc := 56) (tgt := 63) dX12_set_56 rfl (fun c => ?_) (fun c => ?_)
        · have h := ie h c
          refine r_iload (pc := 63) dX12_set_63 0 rfl ?_
          refine r_sub [2, 4, 5, 1] rfl ?_
          exact wX12_set_b65 h
        · have h := it h c
          refine r_iconst (pc := 59) dX12_set_59 kc_iconst_5 ?_
          refine r_goto (pc := 60) (tgt := 65) dX12_set_60 rfl ?_
          refine r_sub [2, 4, 5, 1] rfl ?_
          exact wX12_set_b65 h
    · have h := it h c
      refine r_bipush (pc := 14) dX12_set_14 kc_bipush_m2 ?_
      cases h
      exact r_iret dX12_set_16
abbrev WX12_lift (G : Gx) (l : Launch) (σ0 : Shp) (X1 : Stt) (rv : Option SV) : Stt → Nat → List (Nat × SV) → List SV → Prop := Wm G l yX12_lift cX12_lift 6 (some .int) (fun _ => True) (rmx 3 66 σ0 X1.1) σ0 (Qmx G σ0 X1 rv)
def fX12_lift (σ : Shp) (I : Nat → Nat → Int32) (R : Nat → Nat → Option Nat) (t : Nat) (x1 : Int32) (x2 : Int32) (x3 : Int32) : Option ((Nat → Nat → Int32) × (Int32)) :=
  if (fX12_isBin x1) = 0 then
    some (I, (-2 : Int32))
  else
    if (fX12_isBin x2) = 0 then
      some (I, (-2 : Int32))
    else
      if kdx σ t = 13 then
      ((R t 3) : Option Nat).bind fun a2 =>
      if kdx σ a2 = 20 then
      if ¬ (x2 < 0 ∨ lnx σ a2 ≤ Int32.toNatClampNeg x2) then
      let v5 := (I a2 (Int32.toNatClampNeg x2))
      (fX12_againstPlace σ I R t v5 x3).bind fun r6 =>
      if r6 = 0 then
        ((R t 10) : Option Nat).bind fun a8 =>
        ((R t 6) : Option Nat).bind fun a9 =>
        if kdx σ a9 = 20 then
        if ¬ (v5 < 0 ∨ lnx σ a9 ≤ Int32.toNatClampNeg v5) then
        if kdx σ a8 = 23 then
        if ¬ (((I a9 (Int32.toNatClampNeg v5)) + x3) < 0 ∨ lnx σ a8 ≤ Int32.toNatClampNeg ((I a9 (Int32.toNatClampNeg v5)) + x3)) then
        if ¬ (x1 < 0 ∨ lnx σ a2 ≤ Int32.toNatClampNeg x1) then
        let I15 := u2 I a2 (Int32.toNatClampNeg x1) (I a8 (Int32.toNatClampNeg ((I a9 (Int32.toNatClampNeg v5)) + x3)))
        some (I15, (1 : Int32))
        else none
        else none
        else none
        else none
        else none
      else
        (fX12_no σ I t r6).bind fun (I16, r17) =>
        some (I16, r17)
      else none
      else none
      else none
theorem kX12_lift {G : Gx} {l : Launch} {σ : Shp} {I : Nat → Nat → Int32} {J : Nat → Nat → Int64} {D : Nat → Nat → UInt64} {R : Nat → Nat → Option Nat} {t : Nat} {x1 : Int32} {x2 : Int32} {x3 : Int32} {I9 : Nat → Nat → Int32} {r9 : Int32} (h : fX12_lift σ I R t x1 x2 x3 = some (I9, r9)) : Con G l yX12_lift cX12_lift 6 (some .int) 3 66 [vR (some t), vI x1, vI x2, vI x3] (σ, I, J, D, R) (σ, I9, J, D, R) (some (vI r9)) := by
  unfold fX12_lift at h
  refine Con.mk (by decide +kernel) rfl (Nat.le_of_ble_eq_true rfl) ?_
  show WX12_lift G l σ (σ, I9, J, D, R) (some (vI r9)) (σ, I, J, D, R) 0 _ []
  refine r_iload_n (pc := 0) dX12_lift_0 rfl 1 rfl ?_
  refine r_callS1 (pc := 1) (av := [vI x1]) (S := []) dX12_lift_1 (kX12_isBin rfl) mkX12_345 mwX12_isBin rfl ⟨Nat.le_of_ble_eq_true rfl, Nat.le_of_ble_eq_true rfl⟩ (Nat.le_of_ble_eq_true rfl) ⟨Nat.le_refl _, Nat.le_refl _⟩ (fun b => b) ?_
  refine r_if_eq (pc := 4) (tgt := 14) dX12_lift_4 rfl (fun c => ?_) (fun c => ?_)
  · have h := it h c
    refine r_bipush (pc := 14) dX12_lift_14 kc_bipush_m2 ?_
    cases h
    exact r_iret dX12_lift_16
  · have h := ie h c
    refine r_iload_n (pc := 7) dX12_lift_7 rfl 2 rfl ?_
    refine r_callS1 (pc := 8) (av := [vI x2]) (S := []) dX12_lift_8 (kX12_isBin rfl) mkX12_345 mwX12_isBin rfl ⟨Nat.le_of_ble_eq_true rfl, Nat.le_of_ble_eq_true rfl⟩ (Nat.le_of_ble_eq_true rfl) ⟨Nat.le_refl _, Nat.le_refl _⟩ (fun b => b) ?_
    refine r_ifne (pc := 11) (tgt := 17) dX12_lift_11 rfl (fun c => ?_) (fun c => ?_)
    · have h := ie h c
      refine r_aload_n (pc := 17) dX12_lift_17 rfl 0 rfl ?_
      obtain ⟨g1, h⟩ := gd h
      obtain ⟨a2, ha2, h⟩ := ob h
      refine r_getS (pc := 18) dX12_lift_18 fgX12_9 rfl g1 ha2 ?_
      refine r_iload_n (pc := 21) dX12_lift_21 rfl 2 rfl ?_
      obtain ⟨g3, h⟩ := gd h
      obtain ⟨g4, h⟩ := gd h
      refine r_iaload (pc := 22) dX12_lift_22 g3 g4 ?_
      refine r_istore (pc := 23) (L' := [(4, vI (I a2 (Int32.toNatClampNeg x2))), (0, vR (some t)), (1, vI x1), (2, vI x2), (3, vI x3)]) dX12_lift_23 (by decide) rfl ?_
      refine r_aload_n (pc := 25) dX12_lift_25 rfl 1 rfl ?_
      refine r_iload (pc := 26) dX12_lift_26 0 rfl ?_
      refine r_iload_n (pc := 28) dX12_lift_28 rfl 4 rfl ?_
      obtain ⟨r6, hc7, h⟩ := ob h
      refine r_callV1 (pc := 29) (av := [vI (I a2 (Int32.toNatClampNeg x2)), vI x3]) (S := []) dX12_lift_29 (kX12_againstPlace hc7) g1 rfl mkX12_390 mwX12_againstPlace rfl ⟨Nat.le_of_ble_eq_true rfl, Nat.le_of_ble_eq_true rfl⟩ (Nat.le_of_ble_eq_true rfl) ⟨Nat.le_refl _, Nat.le_refl _⟩ (fun b => b) ?_
      refine r_istore (pc := 32) (L' := [(5, vI r6), (4, vI (I a2 (Int32.toNatClampNeg x2))), (0, vR (some t)), (1, vI x1), (2, vI x2), (3, vI x3)]) dX12_lift_32 (by decide) rfl ?_
      refine r_iload (pc := 34) dX12_lift_34 0 rfl ?_
      refine r_if_eq (pc := 36) (tgt := 46) dX12_lift_36 rfl (fun c => ?_) (fun c => ?_)
      · have h := it h c
        refine r_aload_n (pc := 46) dX12_lift_46 rfl 2 rfl ?_
        refine r_getS (pc := 47) dX12_lift_47 fgX12_9 rfl g1 ha2 ?_
        refine r_iload_n (pc := 50) dX12_lift_50 rfl 3 rfl ?_
        refine r_aload_n (pc := 51) dX12_lift_51 rfl 2 rfl ?_
        obtain ⟨a8, ha8, h⟩ := ob h
        refine r_getS (pc := 52) dX12_lift_52 fgX12_31 rfl g1 ha8 ?_
        refine r_aload_n (pc := 55) dX12_lift_55 rfl 2 rfl ?_
        obtain ⟨a9, ha9, h⟩ := ob h
        refine r_getS (pc := 56) dX12_lift_56 fgX12_22 rfl g1 ha9 ?_
        refine r_iload (pc := 59) dX12_lift_59 1 rfl ?_
        obtain ⟨g10, h⟩ := gd h
        obtain ⟨g11, h⟩ := gd h
        refine r_iaload (pc := 61) dX12_lift_61 g10 g11 ?_
        refine r_iload_n (pc := 62) dX12_lift_62 rfl 5 rfl ?_
        refine r_iadd (pc := 63) dX12_lift_63 ?_
        obtain ⟨g12, h⟩ := gd h
        obtain ⟨g13, h⟩ := gd h
        refine r_saload (pc := 64) dX12_lift_64 g12 g13 ?_
        obtain ⟨g14, h⟩ := gd h
        refine r_iastore (pc := 65) dX12_lift_65 g3 g14 ?_
        refine r_iconst (pc := 66) dX12_lift_66 kc_iconst_1 ?_
        cases h
        exact r_iret dX12_lift_67
      · have h := ie h c
        refine r_aload_n (pc := 39) dX12_lift_39 rfl 2 rfl ?_
        refine r_iload (pc := 40) dX12_lift_40 0 rfl ?_
        obtain ⟨⟨I16, r17⟩, hc18, h⟩ := ob h
        refine r_callV1 (pc := 42) (av := [vI r6]) (S := []) dX12_lift_42 (kX12_no hc18) g1 rfl mkX12_308 mwX12_no rfl ⟨Nat.le_of_ble_eq_true rfl, Nat.le_of_ble_eq_true rfl⟩ (Nat.le_of_ble_eq_true rfl) ⟨Nat.le_refl _, Nat.le_refl _⟩ (fun b => b) ?_
        cases h
        exact r_iret dX12_lift_45
    · have h := it h c
      refine r_bipush (pc := 14) dX12_lift_14 kc_bipush_m2 ?_
      cases h
      exact r_iret dX12_lift_16
abbrev WX12_liftAs (G : Gx) (l : Launch) (σ0 : Shp) (X1 : Stt) (rv : Option SV) : Stt → Nat → List (Nat × SV) → List SV → Prop := Wm G l yX12_liftAs cX12_liftAs 7 (some .int) (fun _ => True) (rmx 3 66 σ0 X1.1) σ0 (Qmx G σ0 X1 rv)
def fX12_liftAs_b79  (σ : Shp) (R : Nat → Nat → Option Nat) (t : Nat) (I : Nat → Nat → Int32) (x1 : Int32) (x3 : Int32) (x5 : Int32) (s0 : Int32) : Option ((Nat → Nat → Int32) × (Int32)) :=
  if s0 = 0 then
    if kdx σ t = 13 then
    ((R t 3) : Option Nat).bind fun a9 =>
    ((R t 10) : Option Nat).bind fun a10 =>
    ((R t 6) : Option Nat).bind fun a11 =>
    if kdx σ a11 = 20 then
    if ¬ (x5 < 0 ∨ lnx σ a11 ≤ Int32.toNatClampNeg x5) then
    if kdx σ a10 = 23 then
    if ¬ (((I a11 (Int32.toNatClampNeg x5)) + x3) < 0 ∨ lnx σ a10 ≤ Int32.toNatClampNeg ((I a11 (Int32.toNatClampNeg x5)) + x3)) then
    if kdx σ a9 = 20 then
    if ¬ (x1 < 0 ∨ lnx σ a9 ≤ Int32.toNatClampNeg x1) then
    let I18 := u2 I a9 (Int32.toNatClampNeg x1) (I a10 (Int32.toNatClampNeg ((I a11 (Int32.toNatClampNeg x5)) + x3)))
    some (I18, (1 : Int32))
    else none
    else none
    else none
    else none
    else none
    else none
    else none
  else
    if kdx σ t = 13 then
    (fX12_no σ I t s0).bind fun (I20, r21) =>
    some (I20, r21)
    else none
theorem wX12_liftAs_b79 {G : Gx} {l : Launch} {σ : Shp} {I : Nat → Nat → Int32} {J : Nat → Nat → Int64} {D : Nat → Nat → UInt64} {R : Nat → Nat → Option Nat} {t : Nat} {I9 : Nat → Nat → Int32} {r9 : Int32} {x1 : Int32} {x3 : Int32} {x5 : Int32} {s0 : Int32} (h : fX12_liftAs_b79 σ R t I x1 x3 x5 s0 = some (I9, r9)) : WX12_liftAs G l σ (σ, I9, J, D, R) (some (vI r9)) (σ, I, J, D, R) 79 [(0, vR (some t)), (1, vI x1), (3, vI x3), (5, vI x5)] [vI s0] := by
  unfold fX12_liftAs_b79 at h
  refine r_istore (pc := 79) (L' := [(6, vI s0), (0, vR (some t)), (1, vI x1), (3, vI x3), (5, vI x5)]) dX12_liftAs_79 (by decide) rfl ?_
  refine r_iload (pc := 81) dX12_liftAs_81 0 rfl ?_
  refine r_if_eq (pc := 83) (tgt := 93) dX12_liftAs_83 rfl (fun c => ?_) (fun c => ?_)
  · have h := it h c
    refine r_aload_n (pc := 93) dX12_liftAs_93 rfl 1 rfl ?_
    obtain ⟨g8, h⟩ := gd h
    obtain ⟨a9, ha9, h⟩ := ob h
    refine r_getS (pc := 94) dX12_liftAs_94 fgX12_9 rfl g8 ha9 ?_
    refine r_iload_n (pc := 97) dX12_liftAs_97 rfl 2 rfl ?_
    refine r_aload_n (pc := 98) dX12_liftAs_98 rfl 1 rfl ?_
    obtain ⟨a10, ha10, h⟩ := ob h
    refine r_getS (pc := 99) dX12_liftAs_99 fgX12_31 rfl g8 ha10 ?_
    refine r_aload_n (pc := 102) dX12_liftAs_102 rfl 1 rfl ?_
    obtain ⟨a11, ha11, h⟩ := ob h
    refine r_getS (pc := 103) dX12_liftAs_103 fgX12_22 rfl g8 ha11 ?_
    refine r_iload (pc := 106) dX12_liftAs_106 4 rfl ?_
    obtain ⟨g12, h⟩ := gd h
    obtain ⟨g13, h⟩ := gd h
    refine r_iaload (pc := 108) dX12_liftAs_108 g12 g13 ?_
    refine r_iload_n (pc := 109) dX12_liftAs_109 rfl 3 rfl ?_
    refine r_iadd (pc := 110) dX12_liftAs_110 ?_
    obtain ⟨g14, h⟩ := gd h
    obtain ⟨g15, h⟩ := gd h
    refine r_saload (pc := 111) dX12_liftAs_111 g14 g15 ?_
    obtain ⟨g16, h⟩ := gd h
    obtain ⟨g17, h⟩ := gd h
    refine r_iastore (pc := 112) dX12_liftAs_112 g16 g17 ?_
    refine r_iconst (pc := 113) dX12_liftAs_113 kc_iconst_1 ?_
    cases h
    exact r_iret dX12_liftAs_114
  · have h := ie h c
    refine r_aload_n (pc := 86) dX12_liftAs_86 rfl 1 rfl ?_
    refine r_iload (pc := 87) dX12_liftAs_87 0 rfl ?_
    obtain ⟨g19, h⟩ := gd h
    obtain ⟨⟨I20, r21⟩, hc22, h⟩ := ob h
    refine r_callV1 (pc := 89) (av := [vI s0]) (S := []) dX12_liftAs_89 (kX12_no hc22) g19 rfl mkX12_308 mwX12_no rfl ⟨Nat.le_of_ble_eq_true rfl, Nat.le_of_ble_eq_true rfl⟩ (Nat.le_of_ble_eq_true rfl) ⟨Nat.le_refl _, Nat.le_refl _⟩ (fun b => b) ?_
    cases h
    exact r_iret dX12_liftAs_92
def fX12_liftAs (σ : Shp) (I : Nat → Nat → Int32) (R : Nat → Nat → Option Nat) (t : Nat) (x1 : Int32) (x2 : Int32) (x3 : Int32) (x4 : Int32) : Option ((Nat → Nat → Int32) × (Int32)) :=
  if (fX12_isBin x1) = 0 then
    some (I, (-2 : Int32))
  else
    if (fX12_isBin x2) = 0 then
      some (I, (-2 : Int32))
    else
      if (fX12_in x4 (0 : Int32) (17 : Int32)) = 0 then
        some (I, (-2 : Int32))
      else
        if kdx σ t = 13 then
        ((R t 3) : Option Nat).bind fun a2 =>
        if kdx σ a2 = 20 then
        if ¬ (x2 < 0 ∨ lnx σ a2 ≤ Int32.toNatClampNeg x2) then
        let v5 := (I a2 (Int32.toNatClampNeg x2))
        (fX12_againstPlace σ I R t v5 x3).bind fun r6 =>
        if r6 = 0 then
          ((R t 10) : Option Nat).bind fun a23 =>
          ((R t 6) : Option Nat).bind fun a24 =>
          if kdx σ a24 = 20 then
          if ¬ (v5 < 0 ∨ lnx σ a24 ≤ Int32.toNatClampNeg v5) then
          if kdx σ a23 = 23 then
          if ¬ (((I a24 (Int32.toNatClampNeg v5)) + x3) < 0 ∨ lnx σ a23 ≤ Int32.toNatClampNeg ((I a24 (Int32.toNatClampNeg v5)) + x3)) then
          (fX12_isOf σ I R t (I a23 (Int32.toNatClampNeg ((I a24 (Int32.toNatClampNeg v5)) + x3))) x4).bind fun r29 =>
          if r29 = 0 then
            fX12_liftAs_b79 σ R t I x1 x3 v5 (4 : Int32)
          else
            fX12_liftAs_b79 σ R t I x1 x3 v5 r6
          else none
          else none
          else none
          else none
        else
          fX12_liftAs_b79 σ R t I x1 x3 v5 r6
        else none
        else none
        else none
theorem kX12_liftAs {G : Gx} {l : Launch} {σ : Shp} {I : Nat → Nat → Int32} {J : Nat → Nat → Int64} {D : Nat → Nat → UInt64} {R : Nat → Nat → Option Nat} {t : Nat} {x1 : Int32} {x2 : Int32} {x3 : Int32} {x4 : Int32} {I9 : Nat → Nat → Int32} {r9 : Int32} (h : fX12_liftAs σ I R t x1 x2 x3 x4 = some (I9, r9)) : Con G l yX12_liftAs cX12_liftAs 7 (some .int) 3 66 [vR (some t), vI x1, vI x2, vI x3, vI x4] (σ, I, J, D, R) (σ, I9, J, D, R) (some (vI r9)) := by
  unfold fX12_liftAs at h
  refine Con.mk (by decide +kernel) rfl (Nat.le_of_ble_eq_true rfl) ?_
  show WX12_liftAs G l σ (σ, I9, J, D, R) (some (vI r9)) (σ, I, J, D, R) 0 _ []
  refine r_iload_n (pc := 0) dX12_liftAs_0 rfl 1 rfl ?_
  refine r_callS1 (pc := 1) (av := [vI x1]) (S := []) dX12_liftAs_1 (kX12_isBin rfl) mkX12_345 mwX12_isBin rfl ⟨Nat.le_of_ble_eq_true rfl, Nat.le_of_ble_eq_true rfl⟩ (Nat.le_of_ble_eq_true rfl) ⟨Nat.le_refl _, Nat.le_refl _⟩ (fun b => b) ?_
  refine r_if_eq (pc := 4) (tgt := 25) dX12_liftAs_4 rfl (fun c => ?_) (fun c => ?_)
  · have h := it h c
    refine r_bipush (pc := 25) dX12_liftAs_25 kc_bipush_m2 ?_
    cases h
    exact r_iret dX12_liftAs_27
  · have h := ie h c
    refine r_iload_n (pc := 7) dX12_liftAs_7 rfl 2 rfl ?_
    refine r_callS1 (pc := 8) (av := [vI x2]) (S := []) dX12_liftAs_8 (kX12_isBin rfl) mkX12_345 mwX12_isBin rfl ⟨Nat.le_of_ble_eq_true rfl, Nat.le_of_ble_eq_true rfl⟩ (Nat.le_of_ble_eq_true rfl) ⟨Nat.le_refl _, Nat.le_refl _⟩ (fun b => b) ?_
    refine r_if_eq (pc := 11) (tgt := 25) dX12_liftAs_11 rfl (fun c => ?_) (fun c => ?_)
    · have h := it h c
      refine r_bipush (pc := 25) dX12_liftAs_25 kc_bipush_m2 ?_
      cases h
      exact r_iret dX12_liftAs_27
    · have h := ie h c
      refine r_iload (pc := 14) dX12_liftAs_14 4 rfl ?_
      refine r_iconst (pc := 16) dX12_liftAs_16 kc_iconst_0 ?_
      refine r_bipush (pc := 17) dX12_liftAs_17 kc_bipush_17 ?_
      refine r_callS1 (pc := 19) (av := [vI x4, vI (0 : Int32), vI (17 : Int32)]) (S := []) dX12_liftAs_19 (kX12_in rfl) mkX12_322 mwX12_in rfl ⟨Nat.le_of_ble_eq_true rfl, Nat.le_of_ble_eq_true rfl⟩ (Nat.le_of_ble_eq_true rfl) ⟨Nat.le_refl _, Nat.le_refl _⟩ (fun b => b) ?_
      refine r_ifne (pc := 22) (tgt := 28) dX12_liftAs_22 rfl (fun c => ?_) (fun c => ?_)
      · have h := ie h c
        refine r_aload_n (pc := 28) dX12_liftAs_28 rfl 0 rfl ?_
        obtain ⟨g1, h⟩ := gd h
        obtain ⟨a2, ha2, h⟩ := ob h
        refine r_getS (pc := 29) dX12_liftAs_29 fgX12_9 rfl g1 ha2 ?_
        refine r_iload_n (pc := 32) dX12_liftAs_32 rfl 2 rfl ?_
        obtain ⟨g3, h⟩ := gd h
        obtain ⟨g4, h⟩ := gd h
        refine r_iaload (pc := 33) dX12_liftAs_33 g3 g4 ?_
        refine r_istore (pc := 34) (L' := [(5, vI (I a2 (Int32.toNatClampNeg x2))), (0, vR (some t)), (1, vI x1), (2, vI x2), (3, vI x3), (4, vI x4)]) dX12_liftAs_34 (by decide) rfl ?_
        refine r_aload_n (pc := 36) dX12_liftAs_36 rfl 1 rfl ?_
        refine r_iload (pc := 37) dX12_liftAs_37 0 rfl ?_
        refine r_iload_n (pc := 39) dX12_liftAs_39 rfl 4 rfl ?_
        obtain ⟨r6, hc7, h⟩ := ob h
        refine r_callV1 (pc := 40) (av := [vI (I a2 (Int32.toNatClampNeg x2)), vI x3]) (S := []) dX12_liftAs_40 (kX12_againstPlace hc7) g1 rfl mkX12_390 mwX12_againstPlace rfl ⟨Nat.le_of_ble_eq_true rfl, Nat.le_of_ble_eq_true rfl⟩ (Nat.le_of_ble_eq_true rfl) ⟨Nat.le_refl _, Nat.le_refl _⟩ (fun b => b) ?_
        refine r_istore (pc := 43) (L' := [(6, vI r6), (5, vI (I a2 (Int32.toNatClampNeg x2))), (0, vR (some t)), (1, vI x1), (2, vI x2), (3, vI x3), (4, vI x4)]) dX12_liftAs_43 (by decide) rfl ?_
        refine r_iload (pc := 45) dX12_liftAs_45 0 rfl ?_
        refine r_ifne (pc := 47) (tgt := 77) dX12_liftAs_47 rfl (fun c => ?_) (fun c => ?_)
        · have h := ie h c
          refine r_iload (pc := 77) dX12_liftAs_77 0 rfl ?_
          refine r_sub [2, 3, 5, 1] rfl ?_
          exact wX12_liftAs_b79 h
        · have h := it h c
          refine r_aload_n (pc := 50) dX12_liftAs_50 rfl 2 rfl ?_
          refine r_aload_n (pc := 51) dX12_liftAs_51 rfl 2 rfl ?_
          obtain ⟨a23, ha23, h⟩ := ob h
          refine r_getS (pc := 52) dX12_liftAs_52 fgX12_31 rfl g1 ha23 ?_
          refine r_aload_n (pc := 55) dX12_liftAs_55 rfl 2 rfl ?_
          obtain ⟨a24, ha24, h⟩ := ob h
          refine r_getS (pc := 56) dX12_liftAs_56 fgX12_22 rfl g1 ha24 ?_
          refine r_iload (pc := 59) dX12_liftAs_59 1 rfl ?_
          obtain ⟨g25, h⟩ := gd h
          obtain ⟨g26, h⟩ := gd h
          refine r_iaload (pc := 61) dX12_liftAs_61 g25 g26 ?_
          refine r_iload_n (pc := 62) dX12_liftAs_62 rfl 5 rfl ?_
          refine r_iadd (pc := 63) dX12_liftAs_63 ?_
          obtain ⟨g27, h⟩ := gd h
          obtain ⟨g28, h⟩ := gd h
          refine r_saload (pc := 64) dX12_liftAs_64 g27 g28 ?_
          refine r_iload (pc := 65) dX12_liftAs_65 6 rfl ?_
          obtain ⟨r29, hc30, h⟩ := ob h
          refine r_callV1 (pc := 67) (av := [vI (I a23 (Int32.toNatClampNeg ((I a24 (Int32.toNatClampNeg (I a2 (Int32.toNatClampNeg x2)))) + x3))), vI x4]) (S := []) dX12_liftAs_67 (kX12_isOf hc30) g1 rfl mkX12_363 mwX12_isOf rfl ⟨Nat.le_of_ble_eq_true rfl, Nat.le_of_ble_eq_true rfl⟩ (Nat.le_of_ble_eq_true rfl) ⟨Nat.le_refl _, Nat.le_refl _⟩ (fun b => b) ?_
          refine r_ifne (pc := 70) (tgt := 77) dX12_liftAs_70 rfl (fun c => ?_) (fun c => ?_)
          · have h := ie h c
            refine r_iload (pc := 77) dX12_liftAs_77 0 rfl ?_
            refine r_sub [2, 3, 5, 1] rfl ?_
            exact wX12_liftAs_b79 h
          · have h := it h c
            refine r_iconst (pc := 73) dX12_liftAs_73 kc_iconst_4 ?_
            refine r_goto (pc := 74) (tgt := 79) dX12_liftAs_74 rfl ?_
            refine r_sub [2, 3, 5, 1] rfl ?_
            exact wX12_liftAs_b79 h
      · have h := it h c
        refine r_bipush (pc := 25) dX12_liftAs_25 kc_bipush_m2 ?_
        cases h
        exact r_iret dX12_liftAs_27
abbrev WX12_againstShift (G : Gx) (l : Launch) (σ0 : Shp) (X1 : Stt) (rv : Option SV) : Stt → Nat → List (Nat × SV) → List SV → Prop := Wm G l yX12_againstShift cX12_againstShift 7 (some .int) (fun _ => True) (rmx 1 21 σ0 X1.1) σ0 (Qmx G σ0 X1 rv)
def fX12_againstShift_b71  (σ : Shp) (I : Nat → Nat → Int32) (R : Nat → Nat → Option Nat) (t : Nat) (x1 : Int32) (x2 : Int32) (x3 : Int32) (x4 : Int32) (x5 : Int32) : Option ((Int32)) :=
  if x2 < 0 then
    some (2 : Int32)
  else
    if x4 < 0 then
      some (2 : Int32)
    else
      if x5 < 0 then
        some (2 : Int32)
      else
        if kdx σ t = 13 then
        ((R t 5) : Option Nat).bind fun a5 =>
        if kdx σ a5 = 22 then
        if ¬ (x1 < 0 ∨ lnx σ a5 ≤ Int32.toNatClampNeg x1) then
        if ((I a5 (Int32.toNatClampNeg x1)) - x5) < x2 then
          some (2 : Int32)
        else
          if ¬ (x3 < 0 ∨ lnx σ a5 ≤ Int32.toNatClampNeg x3) then
          if x4 ≤ ((I a5 (Int32.toNatClampNeg x3)) - x5) then
            some (0 : Int32)
          else
            some (2 : Int32)
          else none
        else none
        else none
        else none
theorem wX12_againstShift_b71 {G : Gx} {l : Launch} {σ : Shp} {I : Nat → Nat → Int32} {J : Nat → Nat → Int64} {D : Nat → Nat → UInt64} {R : Nat → Nat → Option Nat} {t : Nat} {r9 : Int32} {x1 : Int32} {x2 : Int32} {x3 : Int32} {x4 : Int32} {x5 : Int32} (h : fX12_againstShift_b71 σ I R t x1 x2 x3 x4 x5 = some r9) : WX12_againstShift G l σ (σ, I, J, D, R) (some (vI r9)) (σ, I, J, D, R) 71 [(0, vR (some t)), (1, vI x1), (2, vI x2), (3, vI x3), (4, vI x4), (5, vI x5)] [] := by
  unfold fX12_againstShift_b71 at h
  refine r_iload_n (pc := 71) dX12_againstShift_71 rfl 2 rfl ?_
  refine r_if_lt (pc := 72) (tgt := 112) dX12_againstShift_72 rfl (fun c => ?_) (fun c => ?_)
  · have h := it h c
    refine r_iconst (pc := 112) dX12_againstShift_112 kc_iconst_2 ?_
    refine r_goto (pc := 113) (tgt := 117) dX12_againstShift_113 rfl ?_
    cases h
    exact r_iret dX12_againstShift_117
  · have h := ie h c
    refine r_iload (pc := 75) dX12_againstShift_75 4 rfl ?_
    refine r_if_lt (pc := 77) (tgt := 112) dX12_againstShift_77 rfl (fun c => ?_) (fun c => ?_)
    · have h := it h c
      refine r_iconst (pc := 112) dX12_againstShift_112 kc_iconst_2 ?_
      refine r_goto (pc := 113) (tgt := 117) dX12_againstShift_113 rfl ?_
      cases h
      exact r_iret dX12_againstShift_117
    · have h := ie h c
      refine r_iload (pc := 80) dX12_againstShift_80 5 rfl ?_
      refine r_if_lt (pc := 82) (tgt := 112) dX12_againstShift_82 rfl (fun c => ?_) (fun c => ?_)
      · have h := it h c
        refine r_iconst (pc := 112) dX12_againstShift_112 kc_iconst_2 ?_
        refine r_goto (pc := 113) (tgt := 117) dX12_againstShift_113 rfl ?_
        cases h
        exact r_iret dX12_againstShift_117
      · have h := ie h c
        refine r_iload_n (pc := 85) dX12_againstShift_85 rfl 2 rfl ?_
        refine r_aload_n (pc := 86) dX12_againstShift_86 rfl 0 rfl ?_
        obtain ⟨g4, h⟩ := gd h
        obtain ⟨a5, ha5, h⟩ := ob h
        refine r_getS (pc := 87) dX12_againstShift_87 fgX12_19 rfl g4 ha5 ?_
        refine r_iload_n (pc := 90) dX12_againstShift_90 rfl 1 rfl ?_
        obtain ⟨g6, h⟩ := gd h
        obtain ⟨g7, h⟩ := gd h
        refine r_baload (pc := 91) dX12_againstShift_91 g6 g7 ?_
        refine r_iload (pc := 92) dX12_againstShift_92 5 rfl ?_
        refine r_isub (pc := 94) dX12_againstShift_94 ?_
        refine r_icmp_gt (pc := 95) (tgt := 112) dX12_againstShift_95 rfl (fun c => ?_) (fun c => ?_)
        · have h := it h c
          refine r_iconst (pc := 112) dX12_againstShift_112 kc_iconst_2 ?_
          refine r_goto (pc := 113) (tgt := 117) dX12_againstShift_113 rfl ?_
          cases h
          exact r_iret dX12_againstShift_117
        · have h := ie h c
          refine r_iload (pc := 98) dX12_againstShift_98 4 rfl ?_
          refine r_aload_n (pc := 100) dX12_againstShift_100 rfl 0 rfl ?_
          refine r_getS (pc := 101) dX12_againstShift_101 fgX12_19 rfl g4 ha5 ?_
          refine r_iload_n (pc := 104) dX12_againstShift_104 rfl 3 rfl ?_
          obtain ⟨g8, h⟩ := gd h
          refine r_baload (pc := 105) dX12_againstShift_105 g6 g8 ?_
          refine r_iload (pc := 106) dX12_againstShift_106 5 rfl ?_
          refine r_isub (pc := 108) dX12_againstShift_108 ?_
          refine r_icmp_le (pc := 109) (tgt := 116) dX12_againstShift_109 rfl (fun c => ?_) (fun c => ?_)
          · have h := it h c
            refine r_iconst (pc := 116) dX12_againstShift_116 kc_iconst_0 ?_
            cases h
            exact r_iret dX12_againstShift_117
          · have h := ie h c
            refine r_iconst (pc := 112) dX12_againstShift_112 kc_iconst_2 ?_
            refine r_goto (pc := 113) (tgt := 117) dX12_againstShift_113 rfl ?_
            cases h
            exact r_iret dX12_againstShift_117
def fX12_againstShift_b46  (σ : Shp) (I : Nat → Nat → Int32) (R : Nat → Nat → Option Nat) (t : Nat) (x1 : Int32) (x2 : Int32) (x3 : Int32) (x4 : Int32) (x5 : Int32) (s0 : Int32) : Option ((Int32)) :=
  if s0 = 0 then
    if kdx σ t = 13 then
    (fX12_hasPlaces σ I R t x1).bind fun r10 =>
    if r10 = 0 then
      some (5 : Int32)
    else
      (fX12_hasPlaces σ I R t x3).bind fun r12 =>
      if r12 = 0 then
        some (5 : Int32)
      else
        fX12_againstShift_b71 σ I R t x1 x2 x3 x4 x5
    else none
  else
    fX12_againstShift_b71 σ I R t x1 x2 x3 x4 x5
theorem wX12_againstShift_b46 {G : Gx} {l : Launch} {σ : Shp} {I : Nat → Nat → Int32} {J : Nat → Nat → Int64} {D : Nat → Nat → UInt64} {R : Nat → Nat → Option Nat} {t : Nat} {r9 : Int32} {x1 : Int32} {x2 : Int32} {x3 : Int32} {x4 : Int32} {x5 : Int32} {s0 : Int32} (h : fX12_againstShift_b46 σ I R t x1 x2 x3 x4 x5 s0 = some r9) : WX12_againstShift G l σ (σ, I, J, D, R) (some (vI r9)) (σ, I, J, D, R) 46 [(0, vR (some t)), (1, vI x1), (2, vI x2), (3, vI x3), (4, vI x4), (5, vI x5)] [vI s0] := by
  unfold fX12_againstShift_b46 at h
  refine r_istore (pc := 46) (L' := [(6, vI s0), (0, vR (some t)), (1, vI x1), (2, vI x2), (3, vI x3), (4, vI x4), (5, vI x5)]) dX12_againstShift_46 (by decide) rfl ?_
  refine r_iload (pc := 48) dX12_againstShift_48 0 rfl ?_
  refine r_ifne (pc := 50) (tgt := 71) dX12_againstShift_50 rfl (fun c => ?_) (fun c => ?_)
  · have h := ie h c
    refine r_sub [1, 2, 3, 4, 5, 6] rfl ?_
    exact wX12_againstShift_b71 h
  · have h := it h c
    refine r_aload_n (pc := 53) dX12_againstShift_53 rfl 1 rfl ?_
    refine r_iload_n (pc := 54) dX12_againstShift_54 rfl 2 rfl ?_
    obtain ⟨g9, h⟩ := gd h
    obtain ⟨r10, hc11, h⟩ := ob h
    refine r_callV1 (pc := 55) (av := [vI x1]) (S := []) dX12_againstShift_55 (kX12_hasPlaces hc11) g9 rfl mkX12_387 mwX12_hasPlaces rfl ⟨Nat.le_of_ble_eq_true rfl, Nat.le_of_ble_eq_true rfl⟩ (Nat.le_of_ble_eq_true rfl) ⟨Nat.le_refl _, Nat.le_refl _⟩ (fun b => b) ?_
    refine r_if_eq (pc := 58) (tgt := 69) dX12_againstShift_58 rfl (fun c => ?_) (fun c => ?_)
    · have h := it h c
      refine r_iconst (pc := 69) dX12_againstShift_69 kc_iconst_5 ?_
      cases h
      exact r_iret dX12_againstShift_70
    · have h := ie h c
      refine r_aload_n (pc := 61) dX12_againstShift_61 rfl 1 rfl ?_
      refine r_iload_n (pc := 62) dX12_againstShift_62 rfl 4 rfl ?_
      obtain ⟨r12, hc13, h⟩ := ob h
      refine r_callV1 (pc := 63) (av := [vI x3]) (S := []) dX12_againstShift_63 (kX12_hasPlaces hc13) g9 rfl mkX12_387 mwX12_hasPlaces rfl ⟨Nat.le_of_ble_eq_true rfl, Nat.le_of_ble_eq_true rfl⟩ (Nat.le_of_ble_eq_true rfl) ⟨Nat.le_refl _, Nat.le_refl _⟩ (fun b => b) ?_
      refine r_ifne (pc := 66) (tgt := 71) dX12_againstShift_66 rfl (fun c => ?_) (fun c => ?_)
      · have h := ie h c
        refine r_sub [1, 2, 3, 4, 5, 6] rfl ?_
        exact wX12_againstShift_b71 h
      · have h := it h c
        refine r_iconst (pc := 69) dX12_againstShift_69 kc_iconst_5 ?_
        cases h
        exact r_iret dX12_againstShift_70
def fX12_againstShift (σ : Shp) (I : Nat → Nat → Int32) (R : Nat → Nat → Option Nat) (t : Nat) (x1 : Int32) (x2 : Int32) (x3 : Int32) (x4 : Int32) (x5 : Int32) : Option ((Int32)) :=
  if x1 = 0 then
    some (1 : Int32)
  else
    if x3 = 0 then
      some (1 : Int32)
    else
      if kdx σ t = 13 then
      (fX12_isRow σ I R t x1).bind fun r2 =>
      if r2 = 0 then
        fX12_againstShift_b46 σ I R t x1 x2 x3 x4 x5 (0 : Int32)
      else
        (fX12_isRow σ I R t x3).bind fun r14 =>
        if r14 = 0 then
          fX12_againstShift_b46 σ I R t x1 x2 x3 x4 x5 (0 : Int32)
        else
          ((R t 4) : Option Nat).bind fun a16 =>
          if kdx σ a16 = 22 then
          if ¬ (x1 < 0 ∨ lnx σ a16 ≤ Int32.toNatClampNeg x1) then
          if ¬ (x3 < 0 ∨ lnx σ a16 ≤ Int32.toNatClampNeg x3) then
          if (I a16 (Int32.toNatClampNeg x1)) = (I a16 (Int32.toNatClampNeg x3)) then
            fX12_againstShift_b46 σ I R t x1 x2 x3 x4 x5 (1 : Int32)
          else
            fX12_againstShift_b46 σ I R t x1 x2 x3 x4 x5 (0 : Int32)
          else none
          else none
          else none
      else none
theorem kX12_againstShift {G : Gx} {l : Launch} {σ : Shp} {I : Nat → Nat → Int32} {J : Nat → Nat → Int64} {D : Nat → Nat → UInt64} {R : Nat → Nat → Option Nat} {t : Nat} {x1 : Int32} {x2 : Int32} {x3 : Int32} {x4 : Int32} {x5 : Int32} {r9 : Int32} (h : fX12_againstShift σ I R t x1 x2 x3 x4 x5 = some r9) : Con G l yX12_againstShift cX12_againstShift 7 (some .int) 1 21 [vR (some t), vI x1, vI x2, vI x3, vI x4, vI x5] (σ, I, J, D, R) (σ, I, J, D, R) (some (vI r9)) := by
  unfold fX12_againstShift at h
  refine Con.mk (by decide +kernel) rfl (Nat.le_of_ble_eq_true rfl) ?_
  show WX12_againstShift G l σ (σ, I, J, D, R) (some (vI r9)) (σ, I, J, D, R) 0 _ []
  refine r_iload_n (pc := 0) dX12_againstShift_0 rfl 1 rfl ?_
  refine r_if_eq (pc := 1) (tgt := 8) dX12_againstShift_1 rfl (fun c => ?_) (fun c => ?_)
  · have h := it h c
    refine r_iconst (pc := 8) dX12_againstShift_8 kc_iconst_1 ?_
    cases h
    exact r_iret dX12_againstShift_9
  · have h := ie h c
    refine r_iload_n (pc := 4) dX12_againstShift_4 rfl 3 rfl ?_
    refine r_ifne (pc := 5) (tgt := 10) dX12_againstShift_5 rfl (fun c => ?_) (fun c => ?_)
    · have h := ie h c
      refine r_aload_n (pc := 10) dX12_againstShift_10 rfl 0 rfl ?_
      refine r_iload_n (pc := 11) dX12_againstShift_11 rfl 1 rfl ?_
      obtain ⟨g1, h⟩ := gd h
      obtain ⟨r2, hc3, h⟩ := ob h
      refine r_callV1 (pc := 12) (av := [vI x1]) (S := []) dX12_againstShift_12 (kX12_isRow hc3) g1 rfl mkX12_396 mwX12_isRow rfl ⟨Nat.le_of_ble_eq_true rfl, Nat.le_of_ble_eq_true rfl⟩ (Nat.le_of_ble_eq_true rfl) ⟨Nat.le_refl _, Nat.le_refl _⟩ (fun b => b) ?_
      refine r_if_eq (pc := 15) (tgt := 45) dX12_againstShift_15 rfl (fun c => ?_) (fun c => ?_)
      · have h := it h c
        refine r_iconst (pc := 45) dX12_againstShift_45 kc_iconst_0 ?_
        refine r_sub [0, 1, 2, 3, 4, 5] rfl ?_
        exact wX12_againstShift_b46 h
      · have h := ie h c
        refine r_aload_n (pc := 18) dX12_againstShift_18 rfl 0 rfl ?_
        refine r_iload_n (pc := 19) dX12_againstShift_19 rfl 3 rfl ?_
        obtain ⟨r14, hc15, h⟩ := ob h
        refine r_callV1 (pc := 20) (av := [vI x3]) (S := []) dX12_againstShift_20 (kX12_isRow hc15) g1 rfl mkX12_396 mwX12_isRow rfl ⟨Nat.le_of_ble_eq_true rfl, Nat.le_of_ble_eq_true rfl⟩ (Nat.le_of_ble_eq_true rfl) ⟨Nat.le_refl _, Nat.le_refl _⟩ (fun b => b) ?_
        refine r_if_eq (pc := 23) (tgt := 45) dX12_againstShift_23 rfl (fun c => ?_) (fun c => ?_)
        · have h := it h c
          refine r_iconst (pc := 45) dX12_againstShift_45 kc_iconst_0 ?_
          refine r_sub [0, 1, 2, 3, 4, 5] rfl ?_
          exact wX12_againstShift_b46 h
        · have h := ie h c
          refine r_aload_n (pc := 26) dX12_againstShift_26 rfl 0 rfl ?_
          obtain ⟨a16, ha16, h⟩ := ob h
          refine r_getS (pc := 27) dX12_againstShift_27 fgX12_15 rfl g1 ha16 ?_
          refine r_iload_n (pc := 30) dX12_againstShift_30 rfl 1 rfl ?_
          obtain ⟨g17, h⟩ := gd h
          obtain ⟨g18, h⟩ := gd h
          refine r_baload (pc := 31) dX12_againstShift_31 g17 g18 ?_
          refine r_aload_n (pc := 32) dX12_againstShift_32 rfl 0 rfl ?_
          refine r_getS (pc := 33) dX12_againstShift_33 fgX12_15 rfl g1 ha16 ?_
          refine r_iload_n (pc := 36) dX12_againstShift_36 rfl 3 rfl ?_
          obtain ⟨g19, h⟩ := gd h
          refine r_baload (pc := 37) dX12_againstShift_37 g17 g19 ?_
          refine r_icmp_ne (pc := 38) (tgt := 45) dX12_againstShift_38 rfl (fun c => ?_) (fun c => ?_)
          · have h := ie h c
            refine r_iconst (pc := 45) dX12_againstShift_45 kc_iconst_0 ?_
            refine r_sub [0, 1, 2, 3, 4, 5] rfl ?_
            exact wX12_againstShift_b46 h
          · have h := it h c
            refine r_iconst (pc := 41) dX12_againstShift_41 kc_iconst_1 ?_
            refine r_goto (pc := 42) (tgt := 46) dX12_againstShift_42 rfl ?_
            refine r_sub [0, 1, 2, 3, 4, 5] rfl ?_
            exact wX12_againstShift_b46 h
    · have h := it h c
      refine r_iconst (pc := 8) dX12_againstShift_8 kc_iconst_1 ?_
      cases h
      exact r_iret dX12_againstShift_9
abbrev WX12_shift (G : Gx) (l : Launch) (σ0 : Shp) (X1 : Stt) (rv : Option SV) : Stt → Nat → List (Nat × SV) → List SV → Prop := Wm G l yX12_shift cX12_shift 11 (some .int) (fun _ => True) (rmx 2 47 σ0 X1.1) σ0 (Qmx G σ0 X1 rv)
def fX12_shift_l142  (σ : Shp) (R : Nat → Nat → Option Nat) (t : Nat) : Nat → (Nat → Nat → Int32) → (Nat → Nat → Int64) → (Int32) → (Int32) → (Int32) → (Int32) → (Int32) → Option ((Nat → Nat → Int32) × (Nat → Nat → Int64) × (Int32))
  | 0, _, _, _, _, _, _, _ => none
  | n + 1, I, J, x4, x5, x7, x9, x10 =>
    if x5 ≤ x10 then
      some (I, J, x5)
    else
      if x9 = 0 then
        if kdx σ t = 13 then
        ((R t 4) : Option Nat).bind fun a14 =>
        if kdx σ a14 = 22 then
        if ¬ (x7 < 0 ∨ lnx σ a14 ≤ Int32.toNatClampNeg x7) then
        ((R t 21) : Option Nat).bind fun a17 =>
        if kdx σ a17 = 21 then
        if ¬ (x10 < 0 ∨ lnx σ a17 ≤ Int32.toNatClampNeg x10) then
        (fX12_isFor σ I R t (I a14 (Int32.toNatClampNeg x7)) (Int64.toInt32 (J a17 (Int32.toNatClampNeg x10)))).bind fun r20 =>
        if r20 = 0 then
          (fX12_no σ I t (5 : Int32)).bind fun (I31, r32) =>
          some (I31, J, r32)
        else
          ((R t 10) : Option Nat).bind fun a22 =>
          ((R t 6) : Option Nat).bind fun a23 =>
          if kdx σ a23 = 20 then
          if ¬ (x7 < 0 ∨ lnx σ a23 ≤ Int32.toNatClampNeg x7) then
          if kdx σ a22 = 23 then
          if ¬ ((((I a23 (Int32.toNatClampNeg x7)) + x4) + x10) < 0 ∨ lnx σ a22 ≤ Int32.toNatClampNeg (((I a23 (Int32.toNatClampNeg x7)) + x4) + x10)) then
          let I28 := u2 I a22 (Int32.toNatClampNeg (((I a23 (Int32.toNatClampNeg x7)) + x4) + x10)) ((Int32.toInt16 ((Int32.toInt16 (Int64.toInt32 (J a17 (Int32.toNatClampNeg x10)))).toInt32)).toInt32)
          let I29 := u2 I28 t 22 ((I28 t 22) + (1 : Int32))
          let v30 := x10 + (1 : Int32)
          fX12_shift_l142 σ R t n I29 J x4 x5 x7 x9 v30
          else none
          else none
          else none
          else none
        else none
        else none
        else none
        else none
        else none
      else
        if kdx σ t = 13 then
        ((R t 8) : Option Nat).bind fun a35 =>
        ((R t 6) : Option Nat).bind fun a36 =>
        if kdx σ a36 = 20 then
        if ¬ (x7 < 0 ∨ lnx σ a36 ≤ Int32.toNatClampNeg x7) then
        ((R t 21) : Option Nat).bind fun a39 =>
        if kdx σ a39 = 21 then
        if ¬ (x10 < 0 ∨ lnx σ a39 ≤ Int32.toNatClampNeg x10) then
        if kdx σ a35 = 21 then
        if ¬ ((((I a36 (Int32.toNatClampNeg x7)) + x4) + x10) < 0 ∨ lnx σ a35 ≤ Int32.toNatClampNeg (((I a36 (Int32.toNatClampNeg x7)) + x4) + x10)) then
        let J44 := u2 J a35 (Int32.toNatClampNeg (((I a36 (Int32.toNatClampNeg x7)) + x4) + x10)) (J a39 (Int32.toNatClampNeg x10))
        let I45 := u2 I t 22 ((I t 22) + (1 : Int32))
        let v46 := x10 + (1 : Int32)
        fX12_shift_l142 σ R t n I45 J44 x4 x5 x7 x9 v46
        else none
        else none
        else none
        else none
        else none
        else none
        else none
theorem wX12_shift_l142 {G : Gx} {l : Launch} {σ : Shp} {D : Nat → Nat → UInt64} {R : Nat → Nat → Option Nat} {t : Nat} {I9 : Nat → Nat → Int32} {J9 : Nat → Nat → Int64} {r9 : Int32} : ∀ (n : Nat) (I : Nat → Nat → Int32) (J : Nat → Nat → Int64) (x4 : Int32) (x5 : Int32) (x7 : Int32) (x9 : Int32) (x10 : Int32), fX12_shift_l142 σ R t n I J x4 x5 x7 x9 x10 = some (I9, J9, r9) → WX12_shift G l σ (σ, I9, J9, D, R) (some (vI r9)) (σ, I, J, D, R) 142 [(0, vR (some t)), (4, vI x4), (5, vI x5), (7, vI x7), (9, vI x9), (10, vI x10)] [] := by
  intro n
  induction n with
  | zero =>
    intro I J x4 x5 x7 x9 x10 h
    have h : none = some _ := h
    cases h
  | succ n ih =>
    intro I J x4 x5 x7 x9 x10 h
    rw [fX12_shift_l142] at h
    refine r_iload (pc := 142) dX12_shift_142 5 rfl ?_
    refine r_iload (pc := 144) dX12_shift_144 2 rfl ?_
    refine r_icmp_ge (pc := 146) (tgt := 253) dX12_shift_146 rfl (fun c => ?_) (fun c => ?_)
    · have h := it h c
      refine r_iload (pc := 253) dX12_shift_253 2 rfl ?_
      cases h
      exact r_iret dX12_shift_255
    · have h := ie h c
      refine r_iload (pc := 149) dX12_shift_149 4 rfl ?_
      refine r_if_eq (pc := 151) (tgt := 182) dX12_shift_151 rfl (fun c => ?_) (fun c => ?_)
      · have h := it h c
        refine r_aload_n (pc := 182) dX12_shift_182 rfl 0 rfl ?_
        refine r_aload_n (pc := 183) dX12_shift_183 rfl 0 rfl ?_
        obtain ⟨g13, h⟩ := gd h
        obtain ⟨a14, ha14, h⟩ := ob h
        refine r_getS (pc := 184) dX12_shift_184 fgX12_15 rfl g13 ha14 ?_
        refine r_iload (pc := 187) dX12_shift_187 3 rfl ?_
        obtain ⟨g15, h⟩ := gd h
        obtain ⟨g16, h⟩ := gd h
        refine r_baload (pc := 189) dX12_shift_189 g15 g16 ?_
        refine r_aload_n (pc := 190) dX12_shift_190 rfl 0 rfl ?_
        obtain ⟨a17, ha17, h⟩ := ob h
        refine r_getS (pc := 191) dX12_shift_191 fgX12_56 rfl g13 ha17 ?_
        refine r_iload (pc := 194) dX12_shift_194 5 rfl ?_
        obtain ⟨g18, h⟩ := gd h
        obtain ⟨g19, h⟩ := gd h
        refine r_laload (pc := 196) dX12_shift_196 g18 g19 ?_
        refine r_l2i (pc := 197) dX12_shift_197 ?_
        obtain ⟨r20, hc21, h⟩ := ob h
        refine r_callV1 (pc := 198) (av := [vI (I a14 (Int32.toNatClampNeg x7)), vI (Int64.toInt32 (J a17 (Int32.toNatClampNeg x10)))]) (S := []) dX12_shift_198 (kX12_isFor hc21) g13 rfl mkX12_393 mwX12_isFor rfl ⟨Nat.le_of_ble_eq_true rfl, Nat.le_of_ble_eq_true rfl⟩ (Nat.le_of_ble_eq_true rfl) ⟨Nat.le_refl _, Nat.le_refl _⟩ (fun b => b) ?_
        refine r_ifne (pc := 201) (tgt := 210) dX12_shift_201 rfl (fun c => ?_) (fun c => ?_)
        · have h := ie h c
          refine r_aload_n (pc := 210) dX12_shift_210 rfl 0 rfl ?_
          obtain ⟨a22, ha22, h⟩ := ob h
          refine r_getS (pc := 211) dX12_shift_211 fgX12_31 rfl g13 ha22 ?_
          refine r_aload_n (pc := 214) dX12_shift_214 rfl 0 rfl ?_
          obtain ⟨a23, ha23, h⟩ := ob h
          refine r_getS (pc := 215) dX12_shift_215 fgX12_22 rfl g13 ha23 ?_
          refine r_iload (pc := 218) dX12_shift_218 3 rfl ?_
          obtain ⟨g24, h⟩ := gd h
          obtain ⟨g25, h⟩ := gd h
          refine r_iaload (pc := 220) dX12_shift_220 g24 g25 ?_
          refine r_iload (pc := 221) dX12_shift_221 1 rfl ?_
          refine r_iadd (pc := 223) dX12_shift_223 ?_
          refine r_iload (pc := 224) dX12_shift_224 5 rfl ?_
          refine r_iadd (pc := 226) dX12_shift_226 ?_
          refine r_aload_n (pc := 227) dX12_shift_227 rfl 0 rfl ?_
          refine r_getS (pc := 228) dX12_shift_228 fgX12_56 rfl g13 ha17 ?_
          refine r_iload (pc := 231) dX12_shift_231 5 rfl ?_
          refine r_laload (pc := 233) dX12_shift_233 g18 g19 ?_
          refine r_l2i (pc := 234) dX12_shift_234 ?_
          refine r_i2s (pc := 235) dX12_shift_235 ?_
          obtain ⟨g26, h⟩ := gd h
          obtain ⟨g27, h⟩ := gd h
          refine r_sastore (pc := 236) dX12_shift_236 g26 g27 ?_
          refine r_aload_n (pc := 237) dX12_shift_237 rfl 0 rfl ?_
          refine r_dup (pc := 238) dX12_shift_238 rfl ?_
          refine r_getI (pc := 239) dX12_shift_239 fgX12_399 rfl g13 ?_
          refine r_iconst (pc := 242) dX12_shift_242 kc_iconst_1 ?_
          refine r_iadd (pc := 243) dX12_shift_243 ?_
          refine r_putI (pc := 244) dX12_shift_244 fwX12_399 rfl g13 ?_
          refine r_iinc (pc := 247) (v := (x10 + (1 : Int32))) (L' := [(10, vI (x10 + (1 : Int32))), (0, vR (some t)), (4, vI x4), (5, vI x5), (7, vI x7), (9, vI x9)]) dX12_shift_247 5 rfl (kc_inc_1 _) (by decide) rfl ?_
          refine r_goto (pc := 250) (tgt := 142) dX12_shift_250 rfl ?_
          refine r_sub [1, 2, 3, 4, 5, 0] rfl ?_
          exact ih _ _ _ _ _ _ _ h
        · have h := it h c
          refine r_aload_n (pc := 204) dX12_shift_204 rfl 0 rfl ?_
          refine r_iconst (pc := 205) dX12_shift_205 kc_iconst_5 ?_
          obtain ⟨⟨I31, r32⟩, hc33, h⟩ := ob h
          refine r_callV1 (pc := 206) (av := [vI (5 : Int32)]) (S := []) dX12_shift_206 (kX12_no hc33) g13 rfl mkX12_308 mwX12_no rfl ⟨Nat.le_of_ble_eq_true rfl, Nat.le_of_ble_eq_true rfl⟩ (Nat.le_of_ble_eq_true rfl) ⟨Nat.le_refl _, Nat.le_refl _⟩ (fun b => b) ?_
          cases h
          exact r_iret dX12_shift_209
      · have h := ie h c
        refine r_aload_n (pc := 154) dX12_shift_154 rfl 0 rfl ?_
        obtain ⟨g34, h⟩ := gd h
        obtain ⟨a35, ha35, h⟩ := ob h
        refine r_getS (pc := 155) dX12_shift_155 fgX12_26 rfl g34 ha35 ?_
        refine r_aload_n (pc := 158) dX12_shift_158 rfl 0 rfl ?_
        obtain ⟨a36, ha36, h⟩ := ob h
        refine r_getS (pc := 159) dX12_shift_159 fgX12_22 rfl g34 ha36 ?_
        refine r_iload (pc := 162) dX12_shift_162 3 rfl ?_
        obtain ⟨g37, h⟩ := gd h
        obtain ⟨g38, h⟩ := gd h
        refine r_iaload (pc := 164) dX12_shift_164 g37 g38 ?_
        refine r_iload (pc := 165) dX12_shift_165 1 rfl ?_
        refine r_iadd (pc := 167) dX12_shift_167 ?_
        refine r_iload (pc := 168) dX12_shift_168 5 rfl ?_
        refine r_iadd (pc := 170) dX12_shift_170 ?_
        refine r_aload_n (pc := 171) dX12_shift_171 rfl 0 rfl ?_
        obtain ⟨a39, ha39, h⟩ := ob h
        refine r_getS (pc := 172) dX12_shift_172 fgX12_56 rfl g34 ha39 ?_
        refine r_iload (pc := 175) dX12_shift_175 5 rfl ?_
        obtain ⟨g40, h⟩ := gd h
        obtain ⟨g41, h⟩ := gd h
        refine r_laload (pc := 177) dX12_shift_177 g40 g41 ?_
        obtain ⟨g42, h⟩ := gd h
        obtain ⟨g43, h⟩ := gd h
        refine r_lastore (pc := 178) dX12_shift_178 g42 g43 ?_
        refine r_goto (pc := 179) (tgt := 237) dX12_shift_179 rfl ?_
        refine r_aload_n (pc := 237) dX12_shift_237 rfl 0 rfl ?_
        refine r_dup (pc := 238) dX12_shift_238 rfl ?_
        refine r_getI (pc := 239) dX12_shift_239 fgX12_399 rfl g34 ?_
        refine r_iconst (pc := 242) dX12_shift_242 kc_iconst_1 ?_
        refine r_iadd (pc := 243) dX12_shift_243 ?_
        refine r_putI (pc := 244) dX12_shift_244 fwX12_399 rfl g34 ?_
        refine r_iinc (pc := 247) (v := (x10 + (1 : Int32))) (L' := [(10, vI (x10 + (1 : Int32))), (0, vR (some t)), (4, vI x4), (5, vI x5), (7, vI x7), (9, vI x9)]) dX12_shift_247 5 rfl (kc_inc_1 _) (by decide) rfl ?_
        refine r_goto (pc := 250) (tgt := 142) dX12_shift_250 rfl ?_
        refine r_sub [1, 2, 3, 4, 5, 0] rfl ?_
        exact ih _ _ _ _ _ _ _ h
def fX12_shift_l76  (σ : Shp) (R : Nat → Nat → Option Nat) (t : Nat) : Nat → (Nat → Nat → Int32) → (Nat → Nat → Int64) → (Int32) → (Int32) → (Int32) → (Int32) → (Int32) → (Int32) → (Int32) → Option ((Nat → Nat → Int32) × (Nat → Nat → Int64) × (Int32))
  | 0, _, _, _, _, _, _, _, _, _ => none
  | n + 1, I, J, x2, x4, x5, x6, x7, x9, x10 =>
    if x5 ≤ x10 then
      fX12_shift_l142 σ R t FUx I J x4 x5 x7 x9 (0 : Int32)
    else
      if kdx σ t = 13 then
      ((R t 21) : Option Nat).bind fun a48 =>
      if x9 = 0 then
        ((R t 10) : Option Nat).bind fun a49 =>
        ((R t 6) : Option Nat).bind fun a50 =>
        if kdx σ a50 = 20 then
        if ¬ (x6 < 0 ∨ lnx σ a50 ≤ Int32.toNatClampNeg x6) then
        if kdx σ a49 = 23 then
        if ¬ ((((I a50 (Int32.toNatClampNeg x6)) + x2) + x10) < 0 ∨ lnx σ a49 ≤ Int32.toNatClampNeg (((I a50 (Int32.toNatClampNeg x6)) + x2) + x10)) then
        if kdx σ a48 = 21 then
        if ¬ (x10 < 0 ∨ lnx σ a48 ≤ Int32.toNatClampNeg x10) then
        let J57 := u2 J a48 (Int32.toNatClampNeg x10) (Int32.toInt64 (I a49 (Int32.toNatClampNeg (((I a50 (Int32.toNatClampNeg x6)) + x2) + x10))))
        let v58 := x10 + (1 : Int32)
        fX12_shift_l76 σ R t n I J57 x2 x4 x5 x6 x7 x9 v58
        else none
        else none
        else none
        else none
        else none
        else none
      else
        ((R t 8) : Option Nat).bind fun a59 =>
        ((R t 6) : Option Nat).bind fun a60 =>
        if kdx σ a60 = 20 then
        if ¬ (x6 < 0 ∨ lnx σ a60 ≤ Int32.toNatClampNeg x6) then
        if kdx σ a59 = 21 then
        if ¬ ((((I a60 (Int32.toNatClampNeg x6)) + x2) + x10) < 0 ∨ lnx σ a59 ≤ Int32.toNatClampNeg (((I a60 (Int32.toNatClampNeg x6)) + x2) + x10)) then
        if kdx σ a48 = 21 then
        if ¬ (x10 < 0 ∨ lnx σ a48 ≤ Int32.toNatClampNeg x10) then
        let J67 := u2 J a48 (Int32.toNatClampNeg x10) (J a59 (Int32.toNatClampNeg (((I a60 (Int32.toNatClampNeg x6)) + x2) + x10)))
        let v68 := x10 + (1 : Int32)
        fX12_shift_l76 σ R t n I J67 x2 x4 x5 x6 x7 x9 v68
        else none
        else none
        else none
        else none
        else none
        else none
      else none
theorem wX12_shift_l76 {G : Gx} {l : Launch} {σ : Shp} {D : Nat → Nat → UInt64} {R : Nat → Nat → Option Nat} {t : Nat} {I9 : Nat → Nat → Int32} {J9 : Nat → Nat → Int64} {r9 : Int32} : ∀ (n : Nat) (I : Nat → Nat → Int32) (J : Nat → Nat → Int64) (x2 : Int32) (x4 : Int32) (x5 : Int32) (x6 : Int32) (x7 : Int32) (x9 : Int32) (x10 : Int32), fX12_shift_l76 σ R t n I J x2 x4 x5 x6 x7 x9 x10 = some (I9, J9, r9) → WX12_shift G l σ (σ, I9, J9, D, R) (some (vI r9)) (σ, I, J, D, R) 76 [(0, vR (some t)), (2, vI x2), (4, vI x4), (5, vI x5), (6, vI x6), (7, vI x7), (9, vI x9), (10, vI x10)] [] := by
  intro n
  induction n with
  | zero =>
    intro I J x2 x4 x5 x6 x7 x9 x10 h
    have h : none = some _ := h
    cases h
  | succ n ih =>
    intro I J x2 x4 x5 x6 x7 x9 x10 h
    rw [fX12_shift_l76] at h
    refine r_iload (pc := 76) dX12_shift_76 7 rfl ?_
    refine r_iload (pc := 78) dX12_shift_78 3 rfl ?_
    refine r_icmp_ge (pc := 80) (tgt := 139) dX12_shift_80 rfl (fun c => ?_) (fun c => ?_)
    · have h := it h c
      refine r_iconst (pc := 139) dX12_shift_139 kc_iconst_0 ?_
      refine r_istore (pc := 140) (L' := [(10, vI (0 : Int32)), (0, vR (some t)), (2, vI x2), (4, vI x4), (5, vI x5), (6, vI x6), (7, vI x7), (9, vI x9)]) dX12_shift_140 (by decide) rfl ?_
      refine r_sub [1, 3, 4, 6, 7, 0] rfl ?_
      exact wX12_shift_l142 _ _ _ _ _ _ _ _ h
    · have h := ie h c
      refine r_aload_n (pc := 83) dX12_shift_83 rfl 0 rfl ?_
      obtain ⟨g47, h⟩ := gd h
      obtain ⟨a48, ha48, h⟩ := ob h
      refine r_getS (pc := 84) dX12_shift_84 fgX12_56 rfl g47 ha48 ?_
      refine r_iload (pc := 87) dX12_shift_87 7 rfl ?_
      refine r_iload (pc := 89) dX12_shift_89 6 rfl ?_
      refine r_if_eq (pc := 91) (tgt := 114) dX12_shift_91 rfl (fun c => ?_) (fun c => ?_)
      · have h := it h c
        refine r_aload_n (pc := 114) dX12_shift_114 rfl 0 rfl ?_
        obtain ⟨a49, ha49, h⟩ := ob h
        refine r_getS (pc := 115) dX12_shift_115 fgX12_31 rfl g47 ha49 ?_
        refine r_aload_n (pc := 118) dX12_shift_118 rfl 0 rfl ?_
        obtain ⟨a50, ha50, h⟩ := ob h
        refine r_getS (pc := 119) dX12_shift_119 fgX12_22 rfl g47 ha50 ?_
        refine r_iload (pc := 122) dX12_shift_122 4 rfl ?_
        obtain ⟨g51, h⟩ := gd h
        obtain ⟨g52, h⟩ := gd h
        refine r_iaload (pc := 124) dX12_shift_124 g51 g52 ?_
        refine r_iload_n (pc := 125) dX12_shift_125 rfl 1 rfl ?_
        refine r_iadd (pc := 126) dX12_shift_126 ?_
        refine r_iload (pc := 127) dX12_shift_127 7 rfl ?_
        refine r_iadd (pc := 129) dX12_shift_129 ?_
        obtain ⟨g53, h⟩ := gd h
        obtain ⟨g54, h⟩ := gd h
        refine r_saload (pc := 130) dX12_shift_130 g53 g54 ?_
        refine r_i2l (pc := 131) dX12_shift_131 ?_
        obtain ⟨g55, h⟩ := gd h
        obtain ⟨g56, h⟩ := gd h
        refine r_lastore (pc := 132) dX12_shift_132 g55 g56 ?_
        refine r_iinc (pc := 133) (v := (x10 + (1 : Int32))) (L' := [(10, vI (x10 + (1 : Int32))), (0, vR (some t)), (2, vI x2), (4, vI x4), (5, vI x5), (6, vI x6), (7, vI x7), (9, vI x9)]) dX12_shift_133 7 rfl (kc_inc_1 _) (by decide) rfl ?_
        refine r_goto (pc := 136) (tgt := 76) dX12_shift_136 rfl ?_
        refine r_sub [1, 2, 3, 4, 5, 6, 7, 0] rfl ?_
        exact ih _ _ _ _ _ _ _ _ _ h
      · have h := ie h c
        refine r_aload_n (pc := 94) dX12_shift_94 rfl 0 rfl ?_
        obtain ⟨a59, ha59, h⟩ := ob h
        refine r_getS (pc := 95) dX12_shift_95 fgX12_26 rfl g47 ha59 ?_
        refine r_aload_n (pc := 98) dX12_shift_98 rfl 0 rfl ?_
        obtain ⟨a60, ha60, h⟩ := ob h
        refine r_getS (pc := 99) dX12_shift_99 fgX12_22 rfl g47 ha60 ?_
        refine r_iload (pc := 102) dX12_shift_102 4 rfl ?_
        obtain ⟨g61, h⟩ := gd h
        obtain ⟨g62, h⟩ := gd h
        refine r_iaload (pc := 104) dX12_shift_104 g61 g62 ?_
        refine r_iload_n (pc := 105) dX12_shift_105 rfl 1 rfl ?_
        refine r_iadd (pc := 106) dX12_shift_106 ?_
        refine r_iload (pc := 107) dX12_shift_107 7 rfl ?_
        refine r_iadd (pc := 109) dX12_shift_109 ?_
        obtain ⟨g63, h⟩ := gd h
        obtain ⟨g64, h⟩ := gd h
        refine r_laload (pc := 110) dX12_shift_110 g63 g64 ?_
        refine r_goto (pc := 111) (tgt := 132) dX12_shift_111 rfl ?_
        obtain ⟨g65, h⟩ := gd h
        obtain ⟨g66, h⟩ := gd h
        refine r_lastore (pc := 132) dX12_shift_132 g65 g66 ?_
        refine r_iinc (pc := 133) (v := (x10 + (1 : Int32))) (L' := [(10, vI (x10 + (1 : Int32))), (0, vR (some t)), (2, vI x2), (4, vI x4), (5, vI x5), (6, vI x6), (7, vI x7), (9, vI x9)]) dX12_shift_133 7 rfl (kc_inc_1 _) (by decide) rfl ?_
        refine r_goto (pc := 136) (tgt := 76) dX12_shift_136 rfl ?_
        refine r_sub [1, 2, 3, 4, 5, 6, 7, 0] rfl ?_
        exact ih _ _ _ _ _ _ _ _ _ h
def fX12_shift (σ : Shp) (I : Nat → Nat → Int32) (J : Nat → Nat → Int64) (R : Nat → Nat → Option Nat) (t : Nat) (x1 : Int32) (x2 : Int32) (x3 : Int32) (x4 : Int32) (x5 : Int32) : Option ((Nat → Nat → Int32) × (Nat → Nat → Int64) × (Int32)) :=
  if (fX12_isBin x1) = 0 then
    some (I, J, (-2 : Int32))
  else
    if (fX12_isBin x3) = 0 then
      some (I, J, (-2 : Int32))
    else
      if kdx σ t = 13 then
      let I2 := u2 I t 22 (0 : Int32)
      ((R t 3) : Option Nat).bind fun a3 =>
      if kdx σ a3 = 20 then
      if ¬ (x1 < 0 ∨ lnx σ a3 ≤ Int32.toNatClampNeg x1) then
      let v6 := (I2 a3 (Int32.toNatClampNeg x1))
      if ¬ (x3 < 0 ∨ lnx σ a3 ≤ Int32.toNatClampNeg x3) then
      let v8 := (I2 a3 (Int32.toNatClampNeg x3))
      (fX12_againstShift σ I2 R t v6 x2 v8 x4 x5).bind fun r9 =>
      if r9 = 0 then
        (fX12_isRow σ I2 R t v6).bind fun r11 =>
        fX12_shift_l76 σ R t FUx I2 J x2 x4 x5 v6 v8 r11 (0 : Int32)
      else
        (fX12_no σ I2 t r9).bind fun (I69, r70) =>
        some (I69, J, r70)
      else none
      else none
      else none
      else none
theorem kX12_shift {G : Gx} {l : Launch} {σ : Shp} {I : Nat → Nat → Int32} {J : Nat → Nat → Int64} {D : Nat → Nat → UInt64} {R : Nat → Nat → Option Nat} {t : Nat} {x1 : Int32} {x2 : Int32} {x3 : Int32} {x4 : Int32} {x5 : Int32} {I9 : Nat → Nat → Int32} {J9 : Nat → Nat → Int64} {r9 : Int32} (h : fX12_shift σ I J R t x1 x2 x3 x4 x5 = some (I9, J9, r9)) : Con G l yX12_shift cX12_shift 11 (some .int) 2 47 [vR (some t), vI x1, vI x2, vI x3, vI x4, vI x5] (σ, I, J, D, R) (σ, I9, J9, D, R) (some (vI r9)) := by
  unfold fX12_shift at h
  refine Con.mk (by decide +kernel) rfl (Nat.le_of_ble_eq_true rfl) ?_
  show WX12_shift G l σ (σ, I9, J9, D, R) (some (vI r9)) (σ, I, J, D, R) 0 _ []
  refine r_iload_n (pc := 0) dX12_shift_0 rfl 1 rfl ?_
  refine r_callS1 (pc := 1) (av := [vI x1]) (S := []) dX12_shift_1 (kX12_isBin rfl) mkX12_345 mwX12_isBin rfl ⟨Nat.le_of_ble_eq_true rfl, Nat.le_of_ble_eq_true rfl⟩ (Nat.le_of_ble_eq_true rfl) ⟨Nat.le_refl _, Nat.le_refl _⟩ (fun b => b) ?_
  refine r_if_eq (pc := 4) (tgt := 14) dX12_shift_4 rfl (fun c => ?_) (fun c => ?_)
  · have h := it h c
    refine r_bipush (pc := 14) dX12_shift_14 kc_bipush_m2 ?_
    cases h
    exact r_iret dX12_shift_16
  · have h := ie h c
    refine r_iload_n (pc := 7) dX12_shift_7 rfl 3 rfl ?_
    refine r_callS1 (pc := 8) (av := [vI x3]) (S := []) dX12_shift_8 (kX12_isBin rfl) mkX12_345 mwX12_isBin rfl ⟨Nat.le_of_ble_eq_true rfl, Nat.le_of_ble_eq_true rfl⟩ (Nat.le_of_ble_eq_true rfl) ⟨Nat.le_refl _, Nat.le_refl _⟩ (fun b => b) ?_
    refine r_ifne (pc := 11) (tgt := 17) dX12_shift_11 rfl (fun c => ?_) (fun c => ?_)
    · have h := ie h c
      refine r_aload_n (pc := 17) dX12_shift_17 rfl 0 rfl ?_
      refine r_iconst (pc := 18) dX12_shift_18 kc_iconst_0 ?_
      obtain ⟨g1, h⟩ := gd h
      refine r_putI (pc := 19) dX12_shift_19 fwX12_399 rfl g1 ?_
      refine r_aload_n (pc := 22) dX12_shift_22 rfl 0 rfl ?_
      obtain ⟨a3, ha3, h⟩ := ob h
      refine r_getS (pc := 23) dX12_shift_23 fgX12_9 rfl g1 ha3 ?_
      refine r_iload_n (pc := 26) dX12_shift_26 rfl 1 rfl ?_
      obtain ⟨g4, h⟩ := gd h
      obtain ⟨g5, h⟩ := gd h
      refine r_iaload (pc := 27) dX12_shift_27 g4 g5 ?_
      refine r_istore (pc := 28) (L' := [(6, vI ((u2 I t 22 (0 : Int32)) a3 (Int32.toNatClampNeg x1))), (0, vR (some t)), (1, vI x1), (2, vI x2), (3, vI x3), (4, vI x4), (5, vI x5)]) dX12_shift_28 (by decide) rfl ?_
      refine r_aload_n (pc := 30) dX12_shift_30 rfl 1 rfl ?_
      refine r_getS (pc := 31) dX12_shift_31 fgX12_9 rfl g1 ha3 ?_
      refine r_iload_n (pc := 34) dX12_shift_34 rfl 4 rfl ?_
      obtain ⟨g7, h⟩ := gd h
      refine r_iaload (pc := 35) dX12_shift_35 g4 g7 ?_
      refine r_istore (pc := 36) (L' := [(7, vI ((u2 I t 22 (0 : Int32)) a3 (Int32.toNatClampNeg x3))), (6, vI ((u2 I t 22 (0 : Int32)) a3 (Int32.toNatClampNeg x1))), (0, vR (some t)), (1, vI x1), (2, vI x2), (3, vI x3), (4, vI x4), (5, vI x5)]) dX12_shift_36 (by decide) rfl ?_
      refine r_aload_n (pc := 38) dX12_shift_38 rfl 2 rfl ?_
      refine r_iload (pc := 39) dX12_shift_39 1 rfl ?_
      refine r_iload_n (pc := 41) dX12_shift_41 rfl 4 rfl ?_
      refine r_iload (pc := 42) dX12_shift_42 0 rfl ?_
      refine r_iload (pc := 44) dX12_shift_44 6 rfl ?_
      refine r_iload (pc := 46) dX12_shift_46 7 rfl ?_
      obtain ⟨r9, hc10, h⟩ := ob h
      refine r_callV1 (pc := 48) (av := [vI ((u2 I t 22 (0 : Int32)) a3 (Int32.toNatClampNeg x1)), vI x2, vI ((u2 I t 22 (0 : Int32)) a3 (Int32.toNatClampNeg x3)), vI x4, vI x5]) (S := []) dX12_shift_48 (kX12_againstShift hc10) g1 rfl mkX12_402 mwX12_againstShift rfl ⟨Nat.le_of_ble_eq_true rfl, Nat.le_of_ble_eq_true rfl⟩ (Nat.le_of_ble_eq_true rfl) ⟨Nat.le_refl _, Nat.le_refl _⟩ (fun b => b) ?_
      refine r_istore (pc := 51) (L' := [(8, vI r9), (7, vI ((u2 I t 22 (0 : Int32)) a3 (Int32.toNatClampNeg x3))), (6, vI ((u2 I t 22 (0 : Int32)) a3 (Int32.toNatClampNeg x1))), (0, vR (some t)), (1, vI x1), (2, vI x2), (3, vI x3), (4, vI x4), (5, vI x5)]) dX12_shift_51 (by decide) rfl ?_
      refine r_iload (pc := 53) dX12_shift_53 0 rfl ?_
      refine r_if_eq (pc := 55) (tgt := 65) dX12_shift_55 rfl (fun c => ?_) (fun c => ?_)
      · have h := it h c
        refine r_aload_n (pc := 65) dX12_shift_65 rfl 3 rfl ?_
        refine r_iload (pc := 66) dX12_shift_66 2 rfl ?_
        obtain ⟨r11, hc12, h⟩ := ob h
        refine r_callV1 (pc := 68) (av := [vI ((u2 I t 22 (0 : Int32)) a3 (Int32.toNatClampNeg x1))]) (S := []) dX12_shift_68 (kX12_isRow hc12) g1 rfl mkX12_396 mwX12_isRow rfl ⟨Nat.le_of_ble_eq_true rfl, Nat.le_of_ble_eq_true rfl⟩ (Nat.le_of_ble_eq_true rfl) ⟨Nat.le_refl _, Nat.le_refl _⟩ (fun b => b) ?_
        refine r_istore (pc := 71) (L' := [(9, vI r11), (8, vI r9), (7, vI ((u2 I t 22 (0 : Int32)) a3 (Int32.toNatClampNeg x3))), (6, vI ((u2 I t 22 (0 : Int32)) a3 (Int32.toNatClampNeg x1))), (0, vR (some t)), (1, vI x1), (2, vI x2), (3, vI x3), (4, vI x4), (5, vI x5)]) dX12_shift_71 (by decide) rfl ?_
        refine r_iconst (pc := 73) dX12_shift_73 kc_iconst_0 ?_
        refine r_istore (pc := 74) (L' := [(10, vI (0 : Int32)), (9, vI r11), (8, vI r9), (7, vI ((u2 I t 22 (0 : Int32)) a3 (Int32.toNatClampNeg x3))), (6, vI ((u2 I t 22 (0 : Int32)) a3 (Int32.toNatClampNeg x1))), (0, vR (some t)), (1, vI x1), (2, vI x2), (3, vI x3), (4, vI x4), (5, vI x5)]) dX12_shift_74 (by decide) rfl ?_
        refine r_sub [5, 7, 9, 10, 4, 3, 1, 0] rfl ?_
        exact wX12_shift_l76 _ _ _ _ _ _ _ _ _ _ h
      · have h := ie h c
        refine r_aload_n (pc := 58) dX12_shift_58 rfl 3 rfl ?_
        refine r_iload (pc := 59) dX12_shift_59 0 rfl ?_
        obtain ⟨⟨I69, r70⟩, hc71, h⟩ := ob h
        refine r_callV1 (pc := 61) (av := [vI r9]) (S := []) dX12_shift_61 (kX12_no hc71) g1 rfl mkX12_308 mwX12_no rfl ⟨Nat.le_of_ble_eq_true rfl, Nat.le_of_ble_eq_true rfl⟩ (Nat.le_of_ble_eq_true rfl) ⟨Nat.le_refl _, Nat.le_refl _⟩ (fun b => b) ?_
        cases h
        exact r_iret dX12_shift_64
    · have h := it h c
      refine r_bipush (pc := 14) dX12_shift_14 kc_bipush_m2 ?_
      cases h
      exact r_iret dX12_shift_16
abbrev WX12_came (G : Gx) (l : Launch) (σ0 : Shp) (X1 : Stt) (rv : Option SV) : Stt → Nat → List (Nat × SV) → List SV → Prop := Wm G l yX12_came cX12_came 1 (some .int) (fun _ => True) (rmx 0 0 σ0 X1.1) σ0 (Qmx G σ0 X1 rv)
def fX12_came (σ : Shp) (I : Nat → Nat → Int32) (t : Nat)  : Option ((Int32)) :=
  if kdx σ t = 13 then
  some (I t 22)
  else none
theorem kX12_came {G : Gx} {l : Launch} {σ : Shp} {I : Nat → Nat → Int32} {J : Nat → Nat → Int64} {D : Nat → Nat → UInt64} {R : Nat → Nat → Option Nat} {t : Nat}  {r9 : Int32} (h : fX12_came σ I t = some r9) : Con G l yX12_came cX12_came 1 (some .int) 0 0 [vR (some t)] (σ, I, J, D, R) (σ, I, J, D, R) (some (vI r9)) := by
  unfold fX12_came at h
  refine Con.mk (by decide +kernel) rfl (Nat.le_of_ble_eq_true rfl) ?_
  show WX12_came G l σ (σ, I, J, D, R) (some (vI r9)) (σ, I, J, D, R) 0 _ []
  refine r_aload_n (pc := 0) dX12_came_0 rfl 0 rfl ?_
  obtain ⟨g1, h⟩ := gd h
  refine r_getI (pc := 1) dX12_came_1 fgX12_399 rfl g1 ?_
  cases h
  exact r_iret dX12_came_4
abbrev WX12_rowCopy (G : Gx) (l : Launch) (σ0 : Shp) (X1 : Stt) (rv : Option SV) : Stt → Nat → List (Nat × SV) → List SV → Prop := Wm G l yX12_rowCopy cX12_rowCopy 4 (some .int) (fun _ => True) (rmx 2 45 σ0 X1.1) σ0 (Qmx G σ0 X1 rv)
def fX12_rowCopy_l19  (σ : Shp) (R : Nat → Nat → Option Nat) (t : Nat) : Nat → (Nat → Nat → Int32) → (Nat → Nat → Int64) → (Int32) → (Int32) → (Int32) → Option ((Nat → Nat → Int32) × (Nat → Nat → Int64) × (Int32))
  | 0, _, _, _, _, _ => none
  | n + 1, I, J, x1, x2, x3 =>
    if kdx σ t = 13 then
    ((R t 5) : Option Nat).bind fun a12 =>
    if kdx σ a12 = 22 then
    if ¬ (x1 < 0 ∨ lnx σ a12 ≤ Int32.toNatClampNeg x1) then
    if (I a12 (Int32.toNatClampNeg x1)) ≤ x3 then
      some (I, J, x2)
    else
      ((R t 8) : Option Nat).bind fun a15 =>
      ((R t 6) : Option Nat).bind fun a16 =>
      if kdx σ a16 = 20 then
      if ¬ (x2 < 0 ∨ lnx σ a16 ≤ Int32.toNatClampNeg x2) then
      if ¬ (x1 < 0 ∨ lnx σ a16 ≤ Int32.toNatClampNeg x1) then
      if kdx σ a15 = 21 then
      if ¬ (((I a16 (Int32.toNatClampNeg x1)) + x3) < 0 ∨ lnx σ a15 ≤ Int32.toNatClampNeg ((I a16 (Int32.toNatClampNeg x1)) + x3)) then
      if ¬ (((I a16 (Int32.toNatClampNeg x2)) + x3) < 0 ∨ lnx σ a15 ≤ Int32.toNatClampNeg ((I a16 (Int32.toNatClampNeg x2)) + x3)) then
      let J23 := u2 J a15 (Int32.toNatClampNeg ((I a16 (Int32.toNatClampNeg x2)) + x3)) (J a15 (Int32.toNatClampNeg ((I a16 (Int32.toNatClampNeg x1)) + x3)))
      let v24 := x3 + (1 : Int32)
      fX12_rowCopy_l19 σ R t n I J23 x1 x2 v24
      else none
      else none
      else none
      else none
      else none
      else none
    else none
    else none
    else none
theorem wX12_rowCopy_l19 {G : Gx} {l : Launch} {σ : Shp} {D : Nat → Nat → UInt64} {R : Nat → Nat → Option Nat} {t : Nat} {I9 : Nat → Nat → Int32} {J9 : Nat → Nat → Int64} {r9 : Int32} : ∀ (n : Nat) (I : Nat → Nat → Int32) (J : Nat → Nat → Int64) (x1 : Int32) (x2 : Int32) (x3 : Int32), fX12_rowCopy_l19 σ R t n I J x1 x2 x3 = some (I9, J9, r9) → WX12_rowCopy G l σ (σ, I9, J9, D, R) (some (vI r9)) (σ, I, J, D, R) 19 [(0, vR (some t)), (1, vI x1), (2, vI x2), (3, vI x3)] [] := by
  intro n
  induction n with
  | zero =>
    intro I J x1 x2 x3 h
    have h : none = some _ := h
    cases h
  | succ n ih =>
    intro I J x1 x2 x3 h
    rw [fX12_rowCopy_l19] at h
    refine r_iload_n (pc := 19) dX12_rowCopy_19 rfl 3 rfl ?_
    refine r_aload_n (pc := 20) dX12_rowCopy_20 rfl 0 rfl ?_
    obtain ⟨g11, h⟩ := gd h
    obtain ⟨a12, ha12, h⟩ := ob h
    refine r_getS (pc := 21) dX12_rowCopy_21 fgX12_19 rfl g11 ha12 ?_
    refine r_iload_n (pc := 24) dX12_rowCopy_24 rfl 1 rfl ?_
    obtain ⟨g13, h⟩ := gd h
    obtain ⟨g14, h⟩ := gd h
    refine r_baload (pc := 25) dX12_rowCopy_25 g13 g14 ?_
    refine r_icmp_ge (pc := 26) (tgt := 61) dX12_rowCopy_26 rfl (fun c => ?_) (fun c => ?_)
    · have h := it h c
      refine r_iload_n (pc := 61) dX12_rowCopy_61 rfl 2 rfl ?_
      cases h
      exact r_iret dX12_rowCopy_62
    · have h := ie h c
      refine r_aload_n (pc := 29) dX12_rowCopy_29 rfl 0 rfl ?_
      obtain ⟨a15, ha15, h⟩ := ob h
      refine r_getS (pc := 30) dX12_rowCopy_30 fgX12_26 rfl g11 ha15 ?_
      refine r_aload_n (pc := 33) dX12_rowCopy_33 rfl 0 rfl ?_
      obtain ⟨a16, ha16, h⟩ := ob h
      refine r_getS (pc := 34) dX12_rowCopy_34 fgX12_22 rfl g11 ha16 ?_
      refine r_iload_n (pc := 37) dX12_rowCopy_37 rfl 2 rfl ?_
      obtain ⟨g17, h⟩ := gd h
      obtain ⟨g18, h⟩ := gd h
      refine r_iaload (pc := 38) dX12_rowCopy_38 g17 g18 ?_
      refine r_iload_n (pc := 39) dX12_rowCopy_39 rfl 3 rfl ?_
      refine r_iadd (pc := 40) dX12_rowCopy_40 ?_
      refine r_aload_n (pc := 41) dX12_rowCopy_41 rfl 0 rfl ?_
      refine r_getS (pc := 42) dX12_rowCopy_42 fgX12_26 rfl g11 ha15 ?_
      refine r_aload_n (pc := 45) dX12_rowCopy_45 rfl 0 rfl ?_
      refine r_getS (pc := 46) dX12_rowCopy_46 fgX12_22 rfl g11 ha16 ?_
      refine r_iload_n (pc := 49) dX12_rowCopy_49 rfl 1 rfl ?_
      obtain ⟨g19, h⟩ := gd h
      refine r_iaload (pc := 50) dX12_rowCopy_50 g17 g19 ?_
      refine r_iload_n (pc := 51) dX12_rowCopy_51 rfl 3 rfl ?_
      refine r_iadd (pc := 52) dX12_rowCopy_52 ?_
      obtain ⟨g20, h⟩ := gd h
      obtain ⟨g21, h⟩ := gd h
      refine r_laload (pc := 53) dX12_rowCopy_53 g20 g21 ?_
      obtain ⟨g22, h⟩ := gd h
      refine r_lastore (pc := 54) dX12_rowCopy_54 g20 g22 ?_
      refine r_iinc (pc := 55) (v := (x3 + (1 : Int32))) (L' := [(3, vI (x3 + (1 : Int32))), (0, vR (some t)), (1, vI x1), (2, vI x2)]) dX12_rowCopy_55 3 rfl (kc_inc_1 _) (by decide) rfl ?_
      refine r_goto (pc := 58) (tgt := 19) dX12_rowCopy_58 rfl ?_
      refine r_sub [1, 2, 3, 0] rfl ?_
      exact ih _ _ _ _ _ h
def fX12_rowCopy (σ : Shp) (I : Nat → Nat → Int32) (J : Nat → Nat → Int64) (R : Nat → Nat → Option Nat) (t : Nat) (x1 : Int32) : Option ((Nat → Nat → Int32) × (Nat → Nat → Int64) × (Int32)) :=
  if kdx σ t = 13 then
  ((R t 4) : Option Nat).bind fun a2 =>
  if kdx σ a2 = 22 then
  if ¬ (x1 < 0 ∨ lnx σ a2 ≤ Int32.toNatClampNeg x1) then
  ((R t 5) : Option Nat).bind fun a5 =>
  if kdx σ a5 = 22 then
  if ¬ (x1 < 0 ∨ lnx σ a5 ≤ Int32.toNatClampNeg x1) then
  (fX12_newRow σ I R t (I a2 (Int32.toNatClampNeg x1)) (I a5 (Int32.toNatClampNeg x1))).bind fun (I8, r9) =>
  fX12_rowCopy_l19 σ R t FUx I8 J x1 r9 (0 : Int32)
  else none
  else none
  else none
  else none
  else none
theorem kX12_rowCopy {G : Gx} {l : Launch} {σ : Shp} {I : Nat → Nat → Int32} {J : Nat → Nat → Int64} {D : Nat → Nat → UInt64} {R : Nat → Nat → Option Nat} {t : Nat} {x1 : Int32} {I9 : Nat → Nat → Int32} {J9 : Nat → Nat → Int64} {r9 : Int32} (h : fX12_rowCopy σ I J R t x1 = some (I9, J9, r9)) : Con G l yX12_rowCopy cX12_rowCopy 4 (some .int) 2 45 [vR (some t), vI x1] (σ, I, J, D, R) (σ, I9, J9, D, R) (some (vI r9)) := by
  unfold fX12_rowCopy at h
  refine Con.mk (by decide +kernel) rfl (Nat.le_of_ble_eq_true rfl) ?_
  show WX12_rowCopy G l σ (σ, I9, J9, D, R) (some (vI r9)) (σ, I, J, D, R) 0 _ []
  refine r_aload_n (pc := 0) dX12_rowCopy_0 rfl 0 rfl ?_
  refine r_aload_n (pc := 1) dX12_rowCopy_1 rfl 0 rfl ?_
  obtain ⟨g1, h⟩ := gd h
  obtain ⟨a2, ha2, h⟩ := ob h
  refine r_getS (pc := 2) dX12_rowCopy_2 fgX12_15 rfl g1 ha2 ?_
  refine r_iload_n (pc := 5) dX12_rowCopy_5 rfl 1 rfl ?_
  obtain ⟨g3, h⟩ := gd h
  obtain ⟨g4, h⟩ := gd h
  refine r_baload (pc := 6) dX12_rowCopy_6 g3 g4 ?_
  refine r_aload_n (pc := 7) dX12_rowCopy_7 rfl 0 rfl ?_
  obtain ⟨a5, ha5, h⟩ := ob h
  refine r_getS (pc := 8) dX12_rowCopy_8 fgX12_19 rfl g1 ha5 ?_
  refine r_iload_n (pc := 11) dX12_rowCopy_11 rfl 1 rfl ?_
  obtain ⟨g6, h⟩ := gd h
  obtain ⟨g7, h⟩ := gd h
  refine r_baload (pc := 12) dX12_rowCopy_12 g6 g7 ?_
  obtain ⟨⟨I8, r9⟩, hc10, h⟩ := ob h
  refine r_callV1 (pc := 13) (av := [vI (I a2 (Int32.toNatClampNeg x1)), vI (I a5 (Int32.toNatClampNeg x1))]) (S := []) dX12_rowCopy_13 (kX12_newRow hc10) g1 rfl mkX12_353 mwX12_newRow rfl ⟨Nat.le_of_ble_eq_true rfl, Nat.le_of_ble_eq_true rfl⟩ (Nat.le_of_ble_eq_true rfl) ⟨Nat.le_refl _, Nat.le_refl _⟩ (fun b => b) ?_
  refine r_istore_n (pc := 16) (L' := [(2, vI r9), (0, vR (some t)), (1, vI x1)]) dX12_rowCopy_16 rfl (by decide) rfl ?_
  refine r_iconst (pc := 17) dX12_rowCopy_17 kc_iconst_0 ?_
  refine r_istore_n (pc := 18) (L' := [(3, vI (0 : Int32)), (2, vI r9), (0, vR (some t)), (1, vI x1)]) dX12_rowCopy_18 rfl (by decide) rfl ?_
  refine r_sub [2, 3, 1, 0] rfl ?_
  exact wX12_rowCopy_l19 _ _ _ _ _ _ h
abbrev WX12_gridCopy (G : Gx) (l : Launch) (σ0 : Shp) (X1 : Stt) (rv : Option SV) : Stt → Nat → List (Nat × SV) → List SV → Prop := Wm G l yX12_gridCopy cX12_gridCopy 5 (some .int) (fun _ => True) (rmx 3 68 σ0 X1.1) σ0 (Qmx G σ0 X1 rv)
def fX12_gridCopy_l19  (σ : Shp) (R : Nat → Nat → Option Nat) (t : Nat) : Nat → (Nat → Nat → Int32) → (Nat → Nat → Int64) → (Int32) → (Int32) → (Int32) → Option ((Nat → Nat → Int32) × (Nat → Nat → Int64) × (Int32))
  | 0, _, _, _, _, _ => none
  | n + 1, I, J, x1, x2, x3 =>
    if kdx σ t = 13 then
    ((R t 5) : Option Nat).bind fun a12 =>
    if kdx σ a12 = 22 then
    if ¬ (x1 < 0 ∨ lnx σ a12 ≤ Int32.toNatClampNeg x1) then
    if (I a12 (Int32.toNatClampNeg x1)) ≤ x3 then
      some (I, J, x2)
    else
      ((R t 10) : Option Nat).bind fun a15 =>
      ((R t 6) : Option Nat).bind fun a16 =>
      if kdx σ a16 = 20 then
      if ¬ (x1 < 0 ∨ lnx σ a16 ≤ Int32.toNatClampNeg x1) then
      if kdx σ a15 = 23 then
      if ¬ (((I a16 (Int32.toNatClampNeg x1)) + x3) < 0 ∨ lnx σ a15 ≤ Int32.toNatClampNeg ((I a16 (Int32.toNatClampNeg x1)) + x3)) then
      let v21 := (I a15 (Int32.toNatClampNeg ((I a16 (Int32.toNatClampNeg x1)) + x3)))
      if ¬ (x2 < 0 ∨ lnx σ a16 ≤ Int32.toNatClampNeg x2) then
      if v21 = 0 then
        if ¬ (((I a16 (Int32.toNatClampNeg x2)) + x3) < 0 ∨ lnx σ a15 ≤ Int32.toNatClampNeg ((I a16 (Int32.toNatClampNeg x2)) + x3)) then
        let I31 := u2 I a15 (Int32.toNatClampNeg ((I a16 (Int32.toNatClampNeg x2)) + x3)) ((Int32.toInt16 ((Int32.toInt16 (0 : Int32)).toInt32)).toInt32)
        let v32 := x3 + (1 : Int32)
        fX12_gridCopy_l19 σ R t n I31 J x1 x2 v32
        else none
      else
        (fX12_rowCopy σ I J R t v21).bind fun (I23, J24, r25) =>
        if ¬ (((I a16 (Int32.toNatClampNeg x2)) + x3) < 0 ∨ lnx σ a15 ≤ Int32.toNatClampNeg ((I a16 (Int32.toNatClampNeg x2)) + x3)) then
        let I28 := u2 I23 a15 (Int32.toNatClampNeg ((I a16 (Int32.toNatClampNeg x2)) + x3)) ((Int32.toInt16 ((Int32.toInt16 r25).toInt32)).toInt32)
        let v29 := x3 + (1 : Int32)
        fX12_gridCopy_l19 σ R t n I28 J24 x1 x2 v29
        else none
      else none
      else none
      else none
      else none
      else none
    else none
    else none
    else none
theorem wX12_gridCopy_l19 {G : Gx} {l : Launch} {σ : Shp} {D : Nat → Nat → UInt64} {R : Nat → Nat → Option Nat} {t : Nat} {I9 : Nat → Nat → Int32} {J9 : Nat → Nat → Int64} {r9 : Int32} : ∀ (n : Nat) (I : Nat → Nat → Int32) (J : Nat → Nat → Int64) (x1 : Int32) (x2 : Int32) (x3 : Int32), fX12_gridCopy_l19 σ R t n I J x1 x2 x3 = some (I9, J9, r9) → WX12_gridCopy G l σ (σ, I9, J9, D, R) (some (vI r9)) (σ, I, J, D, R) 19 [(0, vR (some t)), (1, vI x1), (2, vI x2), (3, vI x3)] [] := by
  intro n
  induction n with
  | zero =>
    intro I J x1 x2 x3 h
    have h : none = some _ := h
    cases h
  | succ n ih =>
    intro I J x1 x2 x3 h
    rw [fX12_gridCopy_l19] at h
    refine r_iload_n (pc := 19) dX12_gridCopy_19 rfl 3 rfl ?_
    refine r_aload_n (pc := 20) dX12_gridCopy_20 rfl 0 rfl ?_
    obtain ⟨g11, h⟩ := gd h
    obtain ⟨a12, ha12, h⟩ := ob h
    refine r_getS (pc := 21) dX12_gridCopy_21 fgX12_19 rfl g11 ha12 ?_
    refine r_iload_n (pc := 24) dX12_gridCopy_24 rfl 1 rfl ?_
    obtain ⟨g13, h⟩ := gd h
    obtain ⟨g14, h⟩ := gd h
    refine r_baload (pc := 25) dX12_gridCopy_25 g13 g14 ?_
    refine r_icmp_ge (pc := 26) (tgt := 79) dX12_gridCopy_26 rfl (fun c => ?_) (fun c => ?_)
    · have h := it h c
      refine r_iload_n (pc := 79) dX12_gridCopy_79 rfl 2 rfl ?_
      cases h
      exact r_iret dX12_gridCopy_80
    · have h := ie h c
      refine r_aload_n (pc := 29) dX12_gridCopy_29 rfl 0 rfl ?_
      obtain ⟨a15, ha15, h⟩ := ob h
      refine r_getS (pc := 30) dX12_gridCopy_30 fgX12_31 rfl g11 ha15 ?_
      refine r_aload_n (pc := 33) dX12_gridCopy_33 rfl 0 rfl ?_
      obtain ⟨a16, ha16, h⟩ := ob h
      refine r_getS (pc := 34) dX12_gridCopy_34 fgX12_22 rfl g11 ha16 ?_
      refine r_iload_n (pc := 37) dX12_gridCopy_37 rfl 1 rfl ?_
      obtain ⟨g17, h⟩ := gd h
      obtain ⟨g18, h⟩ := gd h
      refine r_iaload (pc := 38) dX12_gridCopy_38 g17 g18 ?_
      refine r_iload_n (pc := 39) dX12_gridCopy_39 rfl 3 rfl ?_
      refine r_iadd (pc := 40) dX12_gridCopy_40 ?_
      obtain ⟨g19, h⟩ := gd h
      obtain ⟨g20, h⟩ := gd h
      refine r_saload (pc := 41) dX12_gridCopy_41 g19 g20 ?_
      refine r_istore (pc := 42) (L' := [(4, vI (I a15 (Int32.toNatClampNeg ((I a16 (Int32.toNatClampNeg x1)) + x3)))), (0, vR (some t)), (1, vI x1), (2, vI x2), (3, vI x3)]) dX12_gridCopy_42 (by decide) rfl ?_
      refine r_aload_n (pc := 44) dX12_gridCopy_44 rfl 1 rfl ?_
      refine r_getS (pc := 45) dX12_gridCopy_45 fgX12_31 rfl g11 ha15 ?_
      refine r_aload_n (pc := 48) dX12_gridCopy_48 rfl 1 rfl ?_
      refine r_getS (pc := 49) dX12_gridCopy_49 fgX12_22 rfl g11 ha16 ?_
      refine r_iload_n (pc := 52) dX12_gridCopy_52 rfl 3 rfl ?_
      obtain ⟨g22, h⟩ := gd h
      refine r_iaload (pc := 53) dX12_gridCopy_53 g17 g22 ?_
      refine r_iload_n (pc := 54) dX12_gridCopy_54 rfl 4 rfl ?_
      refine r_iadd (pc := 55) dX12_gridCopy_55 ?_
      refine r_iload (pc := 56) dX12_gridCopy_56 0 rfl ?_
      refine r_ifne (pc := 58) (tgt := 65) dX12_gridCopy_58 rfl (fun c => ?_) (fun c => ?_)
      · have h := ie h c
        refine r_aload_n (pc := 65) dX12_gridCopy_65 rfl 1 rfl ?_
        refine r_iload (pc := 66) dX12_gridCopy_66 0 rfl ?_
        obtain ⟨⟨I23, J24, r25⟩, hc26, h⟩ := ob h
        refine r_callV1 (pc := 68) (av := [vI (I a15 (Int32.toNatClampNeg ((I a16 (Int32.toNatClampNeg x1)) + x3)))]) (S := [vI ((I a16 (Int32.toNatClampNeg x2)) + x3), vR (some a15)]) dX12_gridCopy_68 (kX12_rowCopy hc26) g11 rfl mkX12_406 mwX12_rowCopy rfl ⟨Nat.le_of_ble_eq_true rfl, Nat.le_of_ble_eq_true rfl⟩ (Nat.le_of_ble_eq_true rfl) ⟨Nat.le_refl _, Nat.le_refl _⟩ (fun b => b) ?_
        refine r_i2s (pc := 71) dX12_gridCopy_71 ?_
        obtain ⟨g27, h⟩ := gd h
        refine r_sastore (pc := 72) dX12_gridCopy_72 g19 g27 ?_
        refine r_iinc (pc := 73) (v := (x3 + (1 : Int32))) (L' := [(3, vI (x3 + (1 : Int32))), (4, vI (I a15 (Int32.toNatClampNeg ((I a16 (Int32.toNatClampNeg x1)) + x3)))), (0, vR (some t)), (1, vI x1), (2, vI x2)]) dX12_gridCopy_73 4 rfl (kc_inc_1 _) (by decide) rfl ?_
        refine r_goto (pc := 76) (tgt := 19) dX12_gridCopy_76 rfl ?_
        refine r_sub [2, 3, 4, 0] rfl ?_
        exact ih _ _ _ _ _ h
      · have h := it h c
        refine r_iconst (pc := 61) dX12_gridCopy_61 kc_iconst_0 ?_
        refine r_goto (pc := 62) (tgt := 71) dX12_gridCopy_62 rfl ?_
        refine r_i2s (pc := 71) dX12_gridCopy_71 ?_
        obtain ⟨g30, h⟩ := gd h
        refine r_sastore (pc := 72) dX12_gridCopy_72 g19 g30 ?_
        refine r_iinc (pc := 73) (v := (x3 + (1 : Int32))) (L' := [(3, vI (x3 + (1 : Int32))), (4, vI (I a15 (Int32.toNatClampNeg ((I a16 (Int32.toNatClampNeg x1)) + x3)))), (0, vR (some t)), (1, vI x1), (2, vI x2)]) dX12_gridCopy_73 4 rfl (kc_inc_1 _) (by decide) rfl ?_
        refine r_goto (pc := 76) (tgt := 19) dX12_gridCopy_76 rfl ?_
        refine r_sub [2, 3, 4, 0] rfl ?_
        exact ih _ _ _ _ _ h
def fX12_gridCopy (σ : Shp) (I : Nat → Nat → Int32) (J : Nat → Nat → Int64) (R : Nat → Nat → Option Nat) (t : Nat) (x1 : Int32) : Option ((Nat → Nat → Int32) × (Nat → Nat → Int64) × (Int32)) :=
  if kdx σ t = 13 then
  ((R t 4) : Option Nat).bind fun a2 =>
  if kdx σ a2 = 22 then
  if ¬ (x1 < 0 ∨ lnx σ a2 ≤ Int32.toNatClampNeg x1) then
  ((R t 5) : Option Nat).bind fun a5 =>
  if kdx σ a5 = 22 then
  if ¬ (x1 < 0 ∨ lnx σ a5 ≤ Int32.toNatClampNeg x1) then
  (fX12_newPlaces σ I R t (I a2 (Int32.toNatClampNeg x1)) (I a5 (Int32.toNatClampNeg x1))).bind fun (I8, r9) =>
  fX12_gridCopy_l19 σ R t FUx I8 J x1 r9 (0 : Int32)
  else none
  else none
  else none
  else none
  else none
theorem kX12_gridCopy {G : Gx} {l : Launch} {σ : Shp} {I : Nat → Nat → Int32} {J : Nat → Nat → Int64} {D : Nat → Nat → UInt64} {R : Nat → Nat → Option Nat} {t : Nat} {x1 : Int32} {I9 : Nat → Nat → Int32} {J9 : Nat → Nat → Int64} {r9 : Int32} (h : fX12_gridCopy σ I J R t x1 = some (I9, J9, r9)) : Con G l yX12_gridCopy cX12_gridCopy 5 (some .int) 3 68 [vR (some t), vI x1] (σ, I, J, D, R) (σ, I9, J9, D, R) (some (vI r9)) := by
  unfold fX12_gridCopy at h
  refine Con.mk (by decide +kernel) rfl (Nat.le_of_ble_eq_true rfl) ?_
  show WX12_gridCopy G l σ (σ, I9, J9, D, R) (some (vI r9)) (σ, I, J, D, R) 0 _ []
  refine r_aload_n (pc := 0) dX12_gridCopy_0 rfl 0 rfl ?_
  refine r_aload_n (pc := 1) dX12_gridCopy_1 rfl 0 rfl ?_
  obtain ⟨g1, h⟩ := gd h
  obtain ⟨a2, ha2, h⟩ := ob h
  refine r_getS (pc := 2) dX12_gridCopy_2 fgX12_15 rfl g1 ha2 ?_
  refine r_iload_n (pc := 5) dX12_gridCopy_5 rfl 1 rfl ?_
  obtain ⟨g3, h⟩ := gd h
  obtain ⟨g4, h⟩ := gd h
  refine r_baload (pc := 6) dX12_gridCopy_6 g3 g4 ?_
  refine r_aload_n (pc := 7) dX12_gridCopy_7 rfl 0 rfl ?_
  obtain ⟨a5, ha5, h⟩ := ob h
  refine r_getS (pc := 8) dX12_gridCopy_8 fgX12_19 rfl g1 ha5 ?_
  refine r_iload_n (pc := 11) dX12_gridCopy_11 rfl 1 rfl ?_
  obtain ⟨g6, h⟩ := gd h
  obtain ⟨g7, h⟩ := gd h
  refine r_baload (pc := 12) dX12_gridCopy_12 g6 g7 ?_
  obtain ⟨⟨I8, r9⟩, hc10, h⟩ := ob h
  refine r_callV1 (pc := 13) (av := [vI (I a2 (Int32.toNatClampNeg x1)), vI (I a5 (Int32.toNatClampNeg x1))]) (S := []) dX12_gridCopy_13 (kX12_newPlaces hc10) g1 rfl mkX12_356 mwX12_newPlaces rfl ⟨Nat.le_of_ble_eq_true rfl, Nat.le_of_ble_eq_true rfl⟩ (Nat.le_of_ble_eq_true rfl) ⟨Nat.le_refl _, Nat.le_refl _⟩ (fun b => b) ?_
  refine r_istore_n (pc := 16) (L' := [(2, vI r9), (0, vR (some t)), (1, vI x1)]) dX12_gridCopy_16 rfl (by decide) rfl ?_
  refine r_iconst (pc := 17) dX12_gridCopy_17 kc_iconst_0 ?_
  refine r_istore_n (pc := 18) (L' := [(3, vI (0 : Int32)), (2, vI r9), (0, vR (some t)), (1, vI x1)]) dX12_gridCopy_18 rfl (by decide) rfl ?_
  refine r_sub [2, 3, 1, 0] rfl ?_
  exact wX12_gridCopy_l19 _ _ _ _ _ _ h
abbrev WX12_placesCopy (G : Gx) (l : Launch) (σ0 : Shp) (X1 : Stt) (rv : Option SV) : Stt → Nat → List (Nat × SV) → List SV → Prop := Wm G l yX12_placesCopy cX12_placesCopy 7 (some .int) (fun _ => True) (rmx 4 92 σ0 X1.1) σ0 (Qmx G σ0 X1 rv)
def fX12_placesCopy_b93 (q41 : (Nat → Nat → Int32) → (Nat → Nat → Int64) → (Int32) → (Int32) → (Int32) → (Int32) → (Option ((Nat → Nat → Int32) × (Nat → Nat → Int64) × (Int32)))) (σ : Shp) (R : Nat → Nat → Option Nat) (t : Nat) (I : Nat → Nat → Int32) (J : Nat → Nat → Int64) (x1 : Int32) (x2 : Int32) (x3 : Int32) (x4 : Int32) (x5 : Int32) (s0 : Int32) : Option ((Nat → Nat → Int32) × (Nat → Nat → Int64) × (Int32)) :=
  if kdx σ t = 13 then
  ((R t 10) : Option Nat).bind fun a23 =>
  ((R t 6) : Option Nat).bind fun a24 =>
  if kdx σ a24 = 20 then
  if ¬ (x3 < 0 ∨ lnx σ a24 ≤ Int32.toNatClampNeg x3) then
  if s0 = 0 then
    if kdx σ a23 = 23 then
    if ¬ (((I a24 (Int32.toNatClampNeg x3)) + x4) < 0 ∨ lnx σ a23 ≤ Int32.toNatClampNeg ((I a24 (Int32.toNatClampNeg x3)) + x4)) then
    let I29 := u2 I a23 (Int32.toNatClampNeg ((I a24 (Int32.toNatClampNeg x3)) + x4)) ((Int32.toInt16 ((Int32.toInt16 x5).toInt32)).toInt32)
    let v30 := x4 + (1 : Int32)
    q41 I29 J x1 x2 x3 v30
    else none
    else none
  else
    (fX12_gridCopy σ I J R t x5).bind fun (I31, J32, r33) =>
    if kdx σ a23 = 23 then
    if ¬ (((I a24 (Int32.toNatClampNeg x3)) + x4) < 0 ∨ lnx σ a23 ≤ Int32.toNatClampNeg ((I a24 (Int32.toNatClampNeg x3)) + x4)) then
    let I37 := u2 I31 a23 (Int32.toNatClampNeg ((I a24 (Int32.toNatClampNeg x3)) + x4)) ((Int32.toInt16 ((Int32.toInt16 r33).toInt32)).toInt32)
    let v38 := x4 + (1 : Int32)
    q41 I37 J32 x1 x2 x3 v38
    else none
    else none
  else none
  else none
  else none
theorem wX12_placesCopy_b93 {G : Gx} {l : Launch} {σ : Shp} {I : Nat → Nat → Int32} {J : Nat → Nat → Int64} {D : Nat → Nat → UInt64} {R : Nat → Nat → Option Nat} {t : Nat} {I9 : Nat → Nat → Int32} {J9 : Nat → Nat → Int64} {r9 : Int32} {q41 : (Nat → Nat → Int32) → (Nat → Nat → Int64) → (Int32) → (Int32) → (Int32) → (Int32) → (Option ((Nat → Nat → Int32) × (Nat → Nat → Int64) × (Int32)))} {x1 : Int32} {x2 : Int32} {x3 : Int32} {x4 : Int32} {x5 : Int32} {s0 : Int32} (hq41 : ∀ (I : Nat → Nat → Int32) (J : Nat → Nat → Int64) (x1 : Int32) (x2 : Int32) (x3 : Int32) (x4 : Int32), q41 I J x1 x2 x3 x4 = some (I9, J9, r9) → WX12_placesCopy G l σ (σ, I9, J9, D, R) (some (vI r9)) (σ, I, J, D, R) 41 [(0, vR (some t)), (1, vI x1), (2, vI x2), (3, vI x3), (4, vI x4)] []) (h : fX12_placesCopy_b93 q41 σ R t I J x1 x2 x3 x4 x5 s0 = some (I9, J9, r9)) : WX12_placesCopy G l σ (σ, I9, J9, D, R) (some (vI r9)) (σ, I, J, D, R) 93 [(0, vR (some t)), (1, vI x1), (2, vI x2), (3, vI x3), (4, vI x4), (5, vI x5)] [vI s0] := by
  unfold fX12_placesCopy_b93 at h
  refine r_istore (pc := 93) (L' := [(6, vI s0), (0, vR (some t)), (1, vI x1), (2, vI x2), (3, vI x3), (4, vI x4), (5, vI x5)]) dX12_placesCopy_93 (by decide) rfl ?_
  refine r_aload_n (pc := 95) dX12_placesCopy_95 rfl 1 rfl ?_
  obtain ⟨g22, h⟩ := gd h
  obtain ⟨a23, ha23, h⟩ := ob h
  refine r_getS (pc := 96) dX12_placesCopy_96 fgX12_31 rfl g22 ha23 ?_
  refine r_aload_n (pc := 99) dX12_placesCopy_99 rfl 1 rfl ?_
  obtain ⟨a24, ha24, h⟩ := ob h
  refine r_getS (pc := 100) dX12_placesCopy_100 fgX12_22 rfl g22 ha24 ?_
  refine r_iload_n (pc := 103) dX12_placesCopy_103 rfl 4 rfl ?_
  obtain ⟨g25, h⟩ := gd h
  obtain ⟨g26, h⟩ := gd h
  refine r_iaload (pc := 104) dX12_placesCopy_104 g25 g26 ?_
  refine r_iload (pc := 105) dX12_placesCopy_105 5 rfl ?_
  refine r_iadd (pc := 107) dX12_placesCopy_107 ?_
  refine r_iload (pc := 108) dX12_placesCopy_108 0 rfl ?_
  refine r_if_eq (pc := 110) (tgt := 122) dX12_placesCopy_110 rfl (fun c => ?_) (fun c => ?_)
  · have h := it h c
    refine r_iload (pc := 122) dX12_placesCopy_122 6 rfl ?_
    refine r_i2s (pc := 124) dX12_placesCopy_124 ?_
    obtain ⟨g27, h⟩ := gd h
    obtain ⟨g28, h⟩ := gd h
    refine r_sastore (pc := 125) dX12_placesCopy_125 g27 g28 ?_
    refine r_iinc (pc := 126) (v := (x4 + (1 : Int32))) (L' := [(4, vI (x4 + (1 : Int32))), (6, vI s0), (0, vR (some t)), (1, vI x1), (2, vI x2), (3, vI x3), (5, vI x5)]) dX12_placesCopy_126 5 rfl (kc_inc_1 _) (by decide) rfl ?_
    refine r_goto (pc := 129) (tgt := 41) dX12_placesCopy_129 rfl ?_
    refine r_sub [2, 3, 4, 5, 0] rfl ?_
    exact hq41 _ _ _ _ _ _ h
  · have h := ie h c
    refine r_aload_n (pc := 113) dX12_placesCopy_113 rfl 1 rfl ?_
    refine r_iload (pc := 114) dX12_placesCopy_114 6 rfl ?_
    obtain ⟨⟨I31, J32, r33⟩, hc34, h⟩ := ob h
    refine r_callV1 (pc := 116) (av := [vI x5]) (S := [vI ((I a24 (Int32.toNatClampNeg x3)) + x4), vR (some a23)]) dX12_placesCopy_116 (kX12_gridCopy hc34) g22 rfl mkX12_409 mwX12_gridCopy rfl ⟨Nat.le_of_ble_eq_true rfl, Nat.le_of_ble_eq_true rfl⟩ (Nat.le_of_ble_eq_true rfl) ⟨Nat.le_refl _, Nat.le_refl _⟩ (fun b => b) ?_
    refine r_goto (pc := 119) (tgt := 124) dX12_placesCopy_119 rfl ?_
    refine r_i2s (pc := 124) dX12_placesCopy_124 ?_
    obtain ⟨g35, h⟩ := gd h
    obtain ⟨g36, h⟩ := gd h
    refine r_sastore (pc := 125) dX12_placesCopy_125 g35 g36 ?_
    refine r_iinc (pc := 126) (v := (x4 + (1 : Int32))) (L' := [(4, vI (x4 + (1 : Int32))), (6, vI s0), (0, vR (some t)), (1, vI x1), (2, vI x2), (3, vI x3), (5, vI x5)]) dX12_placesCopy_126 5 rfl (kc_inc_1 _) (by decide) rfl ?_
    refine r_goto (pc := 129) (tgt := 41) dX12_placesCopy_129 rfl ?_
    refine r_sub [2, 3, 4, 5, 0] rfl ?_
    exact hq41 _ _ _ _ _ _ h
def fX12_placesCopy_l41  (σ : Shp) (R : Nat → Nat → Option Nat) (t : Nat) : Nat → (Nat → Nat → Int32) → (Nat → Nat → Int64) → (Int32) → (Int32) → (Int32) → (Int32) → Option ((Nat → Nat → Int32) × (Nat → Nat → Int64) × (Int32))
  | 0, _, _, _, _, _, _ => none
  | n + 1, I, J, x1, x2, x3, x4 =>
    if kdx σ t = 13 then
    ((R t 5) : Option Nat).bind fun a12 =>
    if kdx σ a12 = 22 then
    if ¬ (x1 < 0 ∨ lnx σ a12 ≤ Int32.toNatClampNeg x1) then
    if (I a12 (Int32.toNatClampNeg x1)) ≤ x4 then
      some (I, J, x3)
    else
      ((R t 10) : Option Nat).bind fun a15 =>
      ((R t 6) : Option Nat).bind fun a16 =>
      if kdx σ a16 = 20 then
      if ¬ (x1 < 0 ∨ lnx σ a16 ≤ Int32.toNatClampNeg x1) then
      if kdx σ a15 = 23 then
      if ¬ (((I a16 (Int32.toNatClampNeg x1)) + x4) < 0 ∨ lnx σ a15 ≤ Int32.toNatClampNeg ((I a16 (Int32.toNatClampNeg x1)) + x4)) then
      let v21 := (I a15 (Int32.toNatClampNeg ((I a16 (Int32.toNatClampNeg x1)) + x4)))
      if x2 = 0 then
        fX12_placesCopy_b93 (fX12_placesCopy_l41 σ R t n) σ R t I J x1 x2 x3 x4 v21 (0 : Int32)
      else
        ((R t 4) : Option Nat).bind fun a39 =>
        if kdx σ a39 = 22 then
        if ¬ (x1 < 0 ∨ lnx σ a39 ≤ Int32.toNatClampNeg x1) then
        if (I a39 (Int32.toNatClampNeg x1)) = (11 : Int32) then
          if v21 = 0 then
            fX12_placesCopy_b93 (fX12_placesCopy_l41 σ R t n) σ R t I J x1 x2 x3 x4 v21 (0 : Int32)
          else
            fX12_placesCopy_b93 (fX12_placesCopy_l41 σ R t n) σ R t I J x1 x2 x3 x4 v21 (1 : Int32)
        else
          fX12_placesCopy_b93 (fX12_placesCopy_l41 σ R t n) σ R t I J x1 x2 x3 x4 v21 (0 : Int32)
        else none
        else none
      else none
      else none
      else none
      else none
    else none
    else none
    else none
theorem wX12_placesCopy_l41 {G : Gx} {l : Launch} {σ : Shp} {D : Nat → Nat → UInt64} {R : Nat → Nat → Option Nat} {t : Nat} {I9 : Nat → Nat → Int32} {J9 : Nat → Nat → Int64} {r9 : Int32} : ∀ (n : Nat) (I : Nat → Nat → Int32) (J : Nat → Nat → Int64) (x1 : Int32) (x2 : Int32) (x3 : Int32) (x4 : Int32), fX12_placesCopy_l41 σ R t n I J x1 x2 x3 x4 = some (I9, J9, r9) → WX12_placesCopy G l σ (σ, I9, J9, D, R) (some (vI r9)) (σ, I, J, D, R) 41 [(0, vR (some t)), (1, vI x1), (2, vI x2), (3, vI x3), (4, vI x4)] [] := by
  intro n
  induction n with
  | zero =>
    intro I J x1 x2 x3 x4 h
    have h : none = some _ := h
    cases h
  | succ n ih =>
    intro I J x1 x2 x3 x4 h
    rw [fX12_placesCopy_l41] at h
    refine r_iload (pc := 41) dX12_placesCopy_41 4 rfl ?_
    refine r_aload_n (pc := 43) dX12_placesCopy_43 rfl 0 rfl ?_
    obtain ⟨g11, h⟩ := gd h
    obtain ⟨a12, ha12, h⟩ := ob h
    refine r_getS (pc := 44) dX12_placesCopy_44 fgX12_19 rfl g11 ha12 ?_
    refine r_iload_n (pc := 47) dX12_placesCopy_47 rfl 1 rfl ?_
    obtain ⟨g13, h⟩ := gd h
    obtain ⟨g14, h⟩ := gd h
    refine r_baload (pc := 48) dX12_placesCopy_48 g13 g14 ?_
    refine r_icmp_ge (pc := 49) (tgt := 132) dX12_placesCopy_49 rfl (fun c => ?_) (fun c => ?_)
    · have h := it h c
      refine r_iload_n (pc := 132) dX12_placesCopy_132 rfl 3 rfl ?_
      cases h
      exact r_iret dX12_placesCopy_133
    · have h := ie h c
      refine r_aload_n (pc := 52) dX12_placesCopy_52 rfl 0 rfl ?_
      obtain ⟨a15, ha15, h⟩ := ob h
      refine r_getS (pc := 53) dX12_placesCopy_53 fgX12_31 rfl g11 ha15 ?_
      refine r_aload_n (pc := 56) dX12_placesCopy_56 rfl 0 rfl ?_
      obtain ⟨a16, ha16, h⟩ := ob h
      refine r_getS (pc := 57) dX12_placesCopy_57 fgX12_22 rfl g11 ha16 ?_
      refine r_iload_n (pc := 60) dX12_placesCopy_60 rfl 1 rfl ?_
      obtain ⟨g17, h⟩ := gd h
      obtain ⟨g18, h⟩ := gd h
      refine r_iaload (pc := 61) dX12_placesCopy_61 g17 g18 ?_
      refine r_iload (pc := 62) dX12_placesCopy_62 4 rfl ?_
      refine r_iadd (pc := 64) dX12_placesCopy_64 ?_
      obtain ⟨g19, h⟩ := gd h
      obtain ⟨g20, h⟩ := gd h
      refine r_saload (pc := 65) dX12_placesCopy_65 g19 g20 ?_
      refine r_istore (pc := 66) (L' := [(5, vI (I a15 (Int32.toNatClampNeg ((I a16 (Int32.toNatClampNeg x1)) + x4)))), (0, vR (some t)), (1, vI x1), (2, vI x2), (3, vI x3), (4, vI x4)]) dX12_placesCopy_66 (by decide) rfl ?_
      refine r_iload_n (pc := 68) dX12_placesCopy_68 rfl 3 rfl ?_
      refine r_if_eq (pc := 69) (tgt := 92) dX12_placesCopy_69 rfl (fun c => ?_) (fun c => ?_)
      · have h := it h c
        refine r_iconst (pc := 92) dX12_placesCopy_92 kc_iconst_0 ?_
        refine r_sub [1, 2, 3, 4, 5, 0] rfl ?_
        exact wX12_placesCopy_b93 ih h
      · have h := ie h c
        refine r_aload_n (pc := 72) dX12_placesCopy_72 rfl 1 rfl ?_
        obtain ⟨a39, ha39, h⟩ := ob h
        refine r_getS (pc := 73) dX12_placesCopy_73 fgX12_15 rfl g11 ha39 ?_
        refine r_iload_n (pc := 76) dX12_placesCopy_76 rfl 2 rfl ?_
        obtain ⟨g40, h⟩ := gd h
        obtain ⟨g41, h⟩ := gd h
        refine r_baload (pc := 77) dX12_placesCopy_77 g40 g41 ?_
        refine r_bipush (pc := 78) dX12_placesCopy_78 kc_bipush_11 ?_
        refine r_icmp_ne (pc := 80) (tgt := 92) dX12_placesCopy_80 rfl (fun c => ?_) (fun c => ?_)
        · have h := ie h c
          refine r_iconst (pc := 92) dX12_placesCopy_92 kc_iconst_0 ?_
          refine r_sub [1, 2, 3, 4, 5, 0] rfl ?_
          exact wX12_placesCopy_b93 ih h
        · have h := it h c
          refine r_iload (pc := 83) dX12_placesCopy_83 0 rfl ?_
          refine r_if_eq (pc := 85) (tgt := 92) dX12_placesCopy_85 rfl (fun c => ?_) (fun c => ?_)
          · have h := it h c
            refine r_iconst (pc := 92) dX12_placesCopy_92 kc_iconst_0 ?_
            refine r_sub [1, 2, 3, 4, 5, 0] rfl ?_
            exact wX12_placesCopy_b93 ih h
          · have h := ie h c
            refine r_iconst (pc := 88) dX12_placesCopy_88 kc_iconst_1 ?_
            refine r_goto (pc := 89) (tgt := 93) dX12_placesCopy_89 rfl ?_
            refine r_sub [1, 2, 3, 4, 5, 0] rfl ?_
            exact wX12_placesCopy_b93 ih h
def fX12_placesCopy (σ : Shp) (I : Nat → Nat → Int32) (J : Nat → Nat → Int64) (R : Nat → Nat → Option Nat) (t : Nat) (x1 : Int32) (x2 : Int32) : Option ((Nat → Nat → Int32) × (Nat → Nat → Int64) × (Int32)) :=
  if x2 = 0 then
    if kdx σ t = 13 then
    ((R t 4) : Option Nat).bind fun a2 =>
    if kdx σ a2 = 22 then
    if ¬ (x1 < 0 ∨ lnx σ a2 ≤ Int32.toNatClampNeg x1) then
    ((R t 5) : Option Nat).bind fun a5 =>
    if kdx σ a5 = 22 then
    if ¬ (x1 < 0 ∨ lnx σ a5 ≤ Int32.toNatClampNeg x1) then
    (fX12_newPlaces σ I R t (I a2 (Int32.toNatClampNeg x1)) (I a5 (Int32.toNatClampNeg x1))).bind fun (I8, r9) =>
    fX12_placesCopy_l41 σ R t FUx I8 J x1 x2 r9 (0 : Int32)
    else none
    else none
    else none
    else none
    else none
  else
    if kdx σ t = 13 then
    ((R t 4) : Option Nat).bind fun a43 =>
    if kdx σ a43 = 22 then
    if ¬ (x1 < 0 ∨ lnx σ a43 ≤ Int32.toNatClampNeg x1) then
    if (11 : Int32) ≤ (I a43 (Int32.toNatClampNeg x1)) then
      ((R t 5) : Option Nat).bind fun a46 =>
      if kdx σ a46 = 22 then
      if ¬ (x1 < 0 ∨ lnx σ a46 ≤ Int32.toNatClampNeg x1) then
      (fX12_newPlaces σ I R t (I a43 (Int32.toNatClampNeg x1)) (I a46 (Int32.toNatClampNeg x1))).bind fun (I49, r50) =>
      fX12_placesCopy_l41 σ R t FUx I49 J x1 x2 r50 (0 : Int32)
      else none
      else none
    else
      (fX12_gridCopy σ I J R t x1).bind fun (I52, J53, r54) =>
      some (I52, J53, r54)
    else none
    else none
    else none
theorem kX12_placesCopy {G : Gx} {l : Launch} {σ : Shp} {I : Nat → Nat → Int32} {J : Nat → Nat → Int64} {D : Nat → Nat → UInt64} {R : Nat → Nat → Option Nat} {t : Nat} {x1 : Int32} {x2 : Int32} {I9 : Nat → Nat → Int32} {J9 : Nat → Nat → Int64} {r9 : Int32} (h : fX12_placesCopy σ I J R t x1 x2 = some (I9, J9, r9)) : Con G l yX12_placesCopy cX12_placesCopy 7 (some .int) 4 92 [vR (some t), vI x1, vI x2] (σ, I, J, D, R) (σ, I9, J9, D, R) (some (vI r9)) := by
  unfold fX12_placesCopy at h
  refine Con.mk (by decide +kernel) rfl (Nat.le_of_ble_eq_true rfl) ?_
  show WX12_placesCopy G l σ (σ, I9, J9, D, R) (some (vI r9)) (σ, I, J, D, R) 0 _ []
  refine r_iload_n (pc := 0) dX12_placesCopy_0 rfl 2 rfl ?_
  refine r_if_eq (pc := 1) (tgt := 21) dX12_placesCopy_1 rfl (fun c => ?_) (fun c => ?_)
  · have h := it h c
    refine r_aload_n (pc := 21) dX12_placesCopy_21 rfl 0 rfl ?_
    refine r_aload_n (pc := 22) dX12_placesCopy_22 rfl 0 rfl ?_
    obtain ⟨g1, h⟩ := gd h
    obtain ⟨a2, ha2, h⟩ := ob h
    refine r_getS (pc := 23) dX12_placesCopy_23 fgX12_15 rfl g1 ha2 ?_
    refine r_iload_n (pc := 26) dX12_placesCopy_26 rfl 1 rfl ?_
    obtain ⟨g3, h⟩ := gd h
    obtain ⟨g4, h⟩ := gd h
    refine r_baload (pc := 27) dX12_placesCopy_27 g3 g4 ?_
    refine r_aload_n (pc := 28) dX12_placesCopy_28 rfl 0 rfl ?_
    obtain ⟨a5, ha5, h⟩ := ob h
    refine r_getS (pc := 29) dX12_placesCopy_29 fgX12_19 rfl g1 ha5 ?_
    refine r_iload_n (pc := 32) dX12_placesCopy_32 rfl 1 rfl ?_
    obtain ⟨g6, h⟩ := gd h
    obtain ⟨g7, h⟩ := gd h
    refine r_baload (pc := 33) dX12_placesCopy_33 g6 g7 ?_
    obtain ⟨⟨I8, r9⟩, hc10, h⟩ := ob h
    refine r_callV1 (pc := 34) (av := [vI (I a2 (Int32.toNatClampNeg x1)), vI (I a5 (Int32.toNatClampNeg x1))]) (S := []) dX12_placesCopy_34 (kX12_newPlaces hc10) g1 rfl mkX12_356 mwX12_newPlaces rfl ⟨Nat.le_of_ble_eq_true rfl, Nat.le_of_ble_eq_true rfl⟩ (Nat.le_of_ble_eq_true rfl) ⟨Nat.le_refl _, Nat.le_refl _⟩ (fun b => b) ?_
    refine r_istore_n (pc := 37) (L' := [(3, vI r9), (0, vR (some t)), (1, vI x1), (2, vI x2)]) dX12_placesCopy_37 rfl (by decide) rfl ?_
    refine r_iconst (pc := 38) dX12_placesCopy_38 kc_iconst_0 ?_
    refine r_istore (pc := 39) (L' := [(4, vI (0 : Int32)), (3, vI r9), (0, vR (some t)), (1, vI x1), (2, vI x2)]) dX12_placesCopy_39 (by decide) rfl ?_
    refine r_sub [2, 3, 4, 1, 0] rfl ?_
    exact wX12_placesCopy_l41 _ _ _ _ _ _ _ h
  · have h := ie h c
    refine r_aload_n (pc := 4) dX12_placesCopy_4 rfl 0 rfl ?_
    obtain ⟨g42, h⟩ := gd h
    obtain ⟨a43, ha43, h⟩ := ob h
    refine r_getS (pc := 5) dX12_placesCopy_5 fgX12_15 rfl g42 ha43 ?_
    refine r_iload_n (pc := 8) dX12_placesCopy_8 rfl 1 rfl ?_
    obtain ⟨g44, h⟩ := gd h
    obtain ⟨g45, h⟩ := gd h
    refine r_baload (pc := 9) dX12_placesCopy_9 g44 g45 ?_
    refine r_bipush (pc := 10) dX12_placesCopy_10 kc_bipush_11 ?_
    refine r_icmp_ge (pc := 12) (tgt := 21) dX12_placesCopy_12 rfl (fun c => ?_) (fun c => ?_)
    · have h := it h c
      refine r_aload_n (pc := 21) dX12_placesCopy_21 rfl 0 rfl ?_
      refine r_aload_n (pc := 22) dX12_placesCopy_22 rfl 0 rfl ?_
      refine r_getS (pc := 23) dX12_placesCopy_23 fgX12_15 rfl g42 ha43 ?_
      refine r_iload_n (pc := 26) dX12_placesCopy_26 rfl 1 rfl ?_
      refine r_baload (pc := 27) dX12_placesCopy_27 g44 g45 ?_
      refine r_aload_n (pc := 28) dX12_placesCopy_28 rfl 0 rfl ?_
      obtain ⟨a46, ha46, h⟩ := ob h
      refine r_getS (pc := 29) dX12_placesCopy_29 fgX12_19 rfl g42 ha46 ?_
      refine r_iload_n (pc := 32) dX12_placesCopy_32 rfl 1 rfl ?_
      obtain ⟨g47, h⟩ := gd h
      obtain ⟨g48, h⟩ := gd h
      refine r_baload (pc := 33) dX12_placesCopy_33 g47 g48 ?_
      obtain ⟨⟨I49, r50⟩, hc51, h⟩ := ob h
      refine r_callV1 (pc := 34) (av := [vI (I a43 (Int32.toNatClampNeg x1)), vI (I a46 (Int32.toNatClampNeg x1))]) (S := []) dX12_placesCopy_34 (kX12_newPlaces hc51) g42 rfl mkX12_356 mwX12_newPlaces rfl ⟨Nat.le_of_ble_eq_true rfl, Nat.le_of_ble_eq_true rfl⟩ (Nat.le_of_ble_eq_true rfl) ⟨Nat.le_refl _, Nat.le_refl _⟩ (fun b => b) ?_
      refine r_istore_n (pc := 37) (L' := [(3, vI r50), (0, vR (some t)), (1, vI x1), (2, vI x2)]) dX12_placesCopy_37 rfl (by decide) rfl ?_
      refine r_iconst (pc := 38) dX12_placesCopy_38 kc_iconst_0 ?_
      refine r_istore (pc := 39) (L' := [(4, vI (0 : Int32)), (3, vI r50), (0, vR (some t)), (1, vI x1), (2, vI x2)]) dX12_placesCopy_39 (by decide) rfl ?_
      refine r_sub [2, 3, 4, 1, 0] rfl ?_
      exact wX12_placesCopy_l41 _ _ _ _ _ _ _ h
    · have h := ie h c
      refine r_aload_n (pc := 15) dX12_placesCopy_15 rfl 0 rfl ?_
      refine r_iload_n (pc := 16) dX12_placesCopy_16 rfl 1 rfl ?_
      obtain ⟨⟨I52, J53, r54⟩, hc55, h⟩ := ob h
      refine r_callV1 (pc := 17) (av := [vI x1]) (S := []) dX12_placesCopy_17 (kX12_gridCopy hc55) g42 rfl mkX12_409 mwX12_gridCopy rfl ⟨Nat.le_of_ble_eq_true rfl, Nat.le_of_ble_eq_true rfl⟩ (Nat.le_of_ble_eq_true rfl) ⟨Nat.le_refl _, Nat.le_refl _⟩ (fun b => b) ?_
      cases h
      exact r_iret dX12_placesCopy_20
abbrev WX12_newCard (G : Gx) (l : Launch) (σ0 : Shp) (X1 : Stt) (rv : Option SV) : Stt → Nat → List (Nat × SV) → List SV → Prop := Wm G l yX12_newCard cX12_newCard 2 (some .int) (fun _ => True) (rmx 1 22 σ0 X1.1) σ0 (Qmx G σ0 X1 rv)
def fX12_newCard (σ : Shp) (I : Nat → Nat → Int32) (R : Nat → Nat → Option Nat) (t : Nat)  : Option ((Nat → Nat → Int32) × (Int32)) :=
  if kdx σ t = 13 then
  (fX12_thing σ I R t (17 : Int32) (0 : Int32)).bind fun (I2, r3) =>
  ((R t 6) : Option Nat).bind fun a5 =>
  if kdx σ a5 = 20 then
  if ¬ (r3 < 0 ∨ lnx σ a5 ≤ Int32.toNatClampNeg r3) then
  let I8 := u2 I2 a5 (Int32.toNatClampNeg r3) (I2 t 7)
  let I9 := u2 I8 t 7 ((I8 t 7) + (8 : Int32))
  ((R t 11) : Option Nat).bind fun a10 =>
  if kdx σ a10 = 20 then
  if ¬ (r3 < 0 ∨ lnx σ a10 ≤ Int32.toNatClampNeg r3) then
  let I13 := u2 I9 a10 (Int32.toNatClampNeg r3) (I9 t 19)
  let I14 := u2 I13 t 19 ((I13 t 19) + (1 : Int32))
  some (I14, r3)
  else none
  else none
  else none
  else none
  else none
theorem kX12_newCard {G : Gx} {l : Launch} {σ : Shp} {I : Nat → Nat → Int32} {J : Nat → Nat → Int64} {D : Nat → Nat → UInt64} {R : Nat → Nat → Option Nat} {t : Nat}  {I9 : Nat → Nat → Int32} {r9 : Int32} (h : fX12_newCard σ I R t = some (I9, r9)) : Con G l yX12_newCard cX12_newCard 2 (some .int) 1 22 [vR (some t)] (σ, I, J, D, R) (σ, I9, J, D, R) (some (vI r9)) := by
  unfold fX12_newCard at h
  refine Con.mk (by decide +kernel) rfl (Nat.le_of_ble_eq_true rfl) ?_
  show WX12_newCard G l σ (σ, I9, J, D, R) (some (vI r9)) (σ, I, J, D, R) 0 _ []
  refine r_aload_n (pc := 0) dX12_newCard_0 rfl 0 rfl ?_
  refine r_bipush (pc := 1) dX12_newCard_1 kc_bipush_17 ?_
  refine r_iconst (pc := 3) dX12_newCard_3 kc_iconst_0 ?_
  obtain ⟨g1, h⟩ := gd h
  obtain ⟨⟨I2, r3⟩, hc4, h⟩ := ob h
  refine r_callV1 (pc := 4) (av := [vI (17 : Int32), vI (0 : Int32)]) (S := []) dX12_newCard_4 (kX12_thing hc4) g1 rfl mkX12_312 mwX12_thing rfl ⟨Nat.le_of_ble_eq_true rfl, Nat.le_of_ble_eq_true rfl⟩ (Nat.le_of_ble_eq_true rfl) ⟨Nat.le_refl _, Nat.le_refl _⟩ (fun b => b) ?_
  refine r_istore_n (pc := 7) (L' := [(1, vI r3), (0, vR (some t))]) dX12_newCard_7 rfl (by decide) rfl ?_
  refine r_aload_n (pc := 8) dX12_newCard_8 rfl 1 rfl ?_
  obtain ⟨a5, ha5, h⟩ := ob h
  refine r_getS (pc := 9) dX12_newCard_9 fgX12_22 rfl g1 ha5 ?_
  refine r_iload_n (pc := 12) dX12_newCard_12 rfl 0 rfl ?_
  refine r_aload_n (pc := 13) dX12_newCard_13 rfl 1 rfl ?_
  refine r_getI (pc := 14) dX12_newCard_14 fgX12_316 rfl g1 ?_
  obtain ⟨g6, h⟩ := gd h
  obtain ⟨g7, h⟩ := gd h
  refine r_iastore (pc := 17) dX12_newCard_17 g6 g7 ?_
  refine r_aload_n (pc := 18) dX12_newCard_18 rfl 1 rfl ?_
  refine r_dup (pc := 19) dX12_newCard_19 rfl ?_
  refine r_getI (pc := 20) dX12_newCard_20 fgX12_316 rfl g1 ?_
  refine r_bipush (pc := 23) dX12_newCard_23 kc_bipush_8 ?_
  refine r_iadd (pc := 25) dX12_newCard_25 ?_
  refine r_putI (pc := 26) dX12_newCard_26 fwX12_316 rfl g1 ?_
  refine r_aload_n (pc := 29) dX12_newCard_29 rfl 1 rfl ?_
  obtain ⟨a10, ha10, h⟩ := ob h
  refine r_getS (pc := 30) dX12_newCard_30 fgX12_35 rfl g1 ha10 ?_
  refine r_iload_n (pc := 33) dX12_newCard_33 rfl 0 rfl ?_
  refine r_aload_n (pc := 34) dX12_newCard_34 rfl 1 rfl ?_
  refine r_getI (pc := 35) dX12_newCard_35 fgX12_469 rfl g1 ?_
  obtain ⟨g11, h⟩ := gd h
  obtain ⟨g12, h⟩ := gd h
  refine r_iastore (pc := 38) dX12_newCard_38 g11 g12 ?_
  refine r_aload_n (pc := 39) dX12_newCard_39 rfl 1 rfl ?_
  refine r_dup (pc := 40) dX12_newCard_40 rfl ?_
  refine r_getI (pc := 41) dX12_newCard_41 fgX12_469 rfl g1 ?_
  refine r_iconst (pc := 44) dX12_newCard_44 kc_iconst_1 ?_
  refine r_iadd (pc := 45) dX12_newCard_45 ?_
  refine r_putI (pc := 46) dX12_newCard_46 fwX12_469 rfl g1 ?_
  refine r_iload_n (pc := 49) dX12_newCard_49 rfl 0 rfl ?_
  cases h
  exact r_iret dX12_newCard_50
abbrev WX12_cardCopy (G : Gx) (l : Launch) (σ0 : Shp) (X1 : Stt) (rv : Option SV) : Stt → Nat → List (Nat × SV) → List SV → Prop := Wm G l yX12_cardCopy cX12_cardCopy 4 (some .int) (fun _ => True) (rmx 2 43 σ0 X1.1) σ0 (Qmx G σ0 X1 rv)
def fX12_cardCopy_l7  (σ : Shp) (R : Nat → Nat → Option Nat) (t : Nat) : Nat → (Nat → Nat → Int32) → (Nat → Nat → Int64) → (Int32) → (Int32) → (Int32) → Option ((Nat → Nat → Int32) × (Nat → Nat → Int64) × (Int32))
  | 0, _, _, _, _, _ => none
  | n + 1, I, J, x1, x2, x3 =>
    if (8 : Int32) ≤ x3 then
      if kdx σ t = 13 then
      ((R t 15) : Option Nat).bind fun a6 =>
      if kdx σ a6 = 23 then
      if ¬ (x1 < 0 ∨ lnx σ a6 ≤ Int32.toNatClampNeg x1) then
      if ¬ (x2 < 0 ∨ lnx σ a6 ≤ Int32.toNatClampNeg x2) then
      let I10 := u2 I a6 (Int32.toNatClampNeg x2) ((Int32.toInt16 (I a6 (Int32.toNatClampNeg x1))).toInt32)
      ((R t 16) : Option Nat).bind fun a11 =>
      if kdx σ a11 = 23 then
      if ¬ (x1 < 0 ∨ lnx σ a11 ≤ Int32.toNatClampNeg x1) then
      if ¬ (x2 < 0 ∨ lnx σ a11 ≤ Int32.toNatClampNeg x2) then
      let I15 := u2 I10 a11 (Int32.toNatClampNeg x2) ((Int32.toInt16 (I10 a11 (Int32.toNatClampNeg x1))).toInt32)
      some (I15, J, x2)
      else none
      else none
      else none
      else none
      else none
      else none
      else none
    else
      if kdx σ t = 13 then
      ((R t 8) : Option Nat).bind fun a17 =>
      ((R t 6) : Option Nat).bind fun a18 =>
      if kdx σ a18 = 20 then
      if ¬ (x2 < 0 ∨ lnx σ a18 ≤ Int32.toNatClampNeg x2) then
      if ¬ (x1 < 0 ∨ lnx σ a18 ≤ Int32.toNatClampNeg x1) then
      if kdx σ a17 = 21 then
      if ¬ (((I a18 (Int32.toNatClampNeg x1)) + x3) < 0 ∨ lnx σ a17 ≤ Int32.toNatClampNeg ((I a18 (Int32.toNatClampNeg x1)) + x3)) then
      if ¬ (((I a18 (Int32.toNatClampNeg x2)) + x3) < 0 ∨ lnx σ a17 ≤ Int32.toNatClampNeg ((I a18 (Int32.toNatClampNeg x2)) + x3)) then
      let J25 := u2 J a17 (Int32.toNatClampNeg ((I a18 (Int32.toNatClampNeg x2)) + x3)) (J a17 (Int32.toNatClampNeg ((I a18 (Int32.toNatClampNeg x1)) + x3)))
      let v26 := x3 + (1 : Int32)
      fX12_cardCopy_l7 σ R t n I J25 x1 x2 v26
      else none
      else none
      else none
      else none
      else none
      else none
      else none
theorem wX12_cardCopy_l7 {G : Gx} {l : Launch} {σ : Shp} {D : Nat → Nat → UInt64} {R : Nat → Nat → Option Nat} {t : Nat} {I9 : Nat → Nat → Int32} {J9 : Nat → Nat → Int64} {r9 : Int32} : ∀ (n : Nat) (I : Nat → Nat → Int32) (J : Nat → Nat → Int64) (x1 : Int32) (x2 : Int32) (x3 : Int32), fX12_cardCopy_l7 σ R t n I J x1 x2 x3 = some (I9, J9, r9) → WX12_cardCopy G l σ (σ, I9, J9, D, R) (some (vI r9)) (σ, I, J, D, R) 7 [(0, vR (some t)), (1, vI x1), (2, vI x2), (3, vI x3)] [] := by
  intro n
  induction n with
  | zero =>
    intro I J x1 x2 x3 h
    have h : none = some _ := h
    cases h
  | succ n ih =>
    intro I J x1 x2 x3 h
    rw [fX12_cardCopy_l7] at h
    refine r_iload_n (pc := 7) dX12_cardCopy_7 rfl 3 rfl ?_
    refine r_bipush (pc := 8) dX12_cardCopy_8 kc_bipush_8 ?_
    refine r_icmp_ge (pc := 10) (tgt := 45) dX12_cardCopy_10 rfl (fun c => ?_) (fun c => ?_)
    · have h := it h c
      refine r_aload_n (pc := 45) dX12_cardCopy_45 rfl 0 rfl ?_
      obtain ⟨g5, h⟩ := gd h
      obtain ⟨a6, ha6, h⟩ := ob h
      refine r_getS (pc := 46) dX12_cardCopy_46 fgX12_47 rfl g5 ha6 ?_
      refine r_iload_n (pc := 49) dX12_cardCopy_49 rfl 2 rfl ?_
      refine r_aload_n (pc := 50) dX12_cardCopy_50 rfl 0 rfl ?_
      refine r_getS (pc := 51) dX12_cardCopy_51 fgX12_47 rfl g5 ha6 ?_
      refine r_iload_n (pc := 54) dX12_cardCopy_54 rfl 1 rfl ?_
      obtain ⟨g7, h⟩ := gd h
      obtain ⟨g8, h⟩ := gd h
      refine r_saload (pc := 55) dX12_cardCopy_55 g7 g8 ?_
      obtain ⟨g9, h⟩ := gd h
      refine r_sastore (pc := 56) dX12_cardCopy_56 g7 g9 ?_
      refine r_aload_n (pc := 57) dX12_cardCopy_57 rfl 0 rfl ?_
      obtain ⟨a11, ha11, h⟩ := ob h
      refine r_getS (pc := 58) dX12_cardCopy_58 fgX12_50 rfl g5 ha11 ?_
      refine r_iload_n (pc := 61) dX12_cardCopy_61 rfl 2 rfl ?_
      refine r_aload_n (pc := 62) dX12_cardCopy_62 rfl 0 rfl ?_
      refine r_getS (pc := 63) dX12_cardCopy_63 fgX12_50 rfl g5 ha11 ?_
      refine r_iload_n (pc := 66) dX12_cardCopy_66 rfl 1 rfl ?_
      obtain ⟨g12, h⟩ := gd h
      obtain ⟨g13, h⟩ := gd h
      refine r_saload (pc := 67) dX12_cardCopy_67 g12 g13 ?_
      obtain ⟨g14, h⟩ := gd h
      refine r_sastore (pc := 68) dX12_cardCopy_68 g12 g14 ?_
      refine r_iload_n (pc := 69) dX12_cardCopy_69 rfl 2 rfl ?_
      cases h
      exact r_iret dX12_cardCopy_70
    · have h := ie h c
      refine r_aload_n (pc := 13) dX12_cardCopy_13 rfl 0 rfl ?_
      obtain ⟨g16, h⟩ := gd h
      obtain ⟨a17, ha17, h⟩ := ob h
      refine r_getS (pc := 14) dX12_cardCopy_14 fgX12_26 rfl g16 ha17 ?_
      refine r_aload_n (pc := 17) dX12_cardCopy_17 rfl 0 rfl ?_
      obtain ⟨a18, ha18, h⟩ := ob h
      refine r_getS (pc := 18) dX12_cardCopy_18 fgX12_22 rfl g16 ha18 ?_
      refine r_iload_n (pc := 21) dX12_cardCopy_21 rfl 2 rfl ?_
      obtain ⟨g19, h⟩ := gd h
      obtain ⟨g20, h⟩ := gd h
      refine r_iaload (pc := 22) dX12_cardCopy_22 g19 g20 ?_
      refine r_iload_n (pc := 23) dX12_cardCopy_23 rfl 3 rfl ?_
      refine r_iadd (pc := 24) dX12_cardCopy_24 ?_
      refine r_aload_n (pc := 25) dX12_cardCopy_25 rfl 0 rfl ?_
      refine r_getS (pc := 26) dX12_cardCopy_26 fgX12_26 rfl g16 ha17 ?_
      refine r_aload_n (pc := 29) dX12_cardCopy_29 rfl 0 rfl ?_
      refine r_getS (pc := 30) dX12_cardCopy_30 fgX12_22 rfl g16 ha18 ?_
      refine r_iload_n (pc := 33) dX12_cardCopy_33 rfl 1 rfl ?_
      obtain ⟨g21, h⟩ := gd h
      refine r_iaload (pc := 34) dX12_cardCopy_34 g19 g21 ?_
      refine r_iload_n (pc := 35) dX12_cardCopy_35 rfl 3 rfl ?_
      refine r_iadd (pc := 36) dX12_cardCopy_36 ?_
      obtain ⟨g22, h⟩ := gd h
      obtain ⟨g23, h⟩ := gd h
      refine r_laload (pc := 37) dX12_cardCopy_37 g22 g23 ?_
      obtain ⟨g24, h⟩ := gd h
      refine r_lastore (pc := 38) dX12_cardCopy_38 g22 g24 ?_
      refine r_iinc (pc := 39) (v := (x3 + (1 : Int32))) (L' := [(3, vI (x3 + (1 : Int32))), (0, vR (some t)), (1, vI x1), (2, vI x2)]) dX12_cardCopy_39 3 rfl (kc_inc_1 _) (by decide) rfl ?_
      refine r_goto (pc := 42) (tgt := 7) dX12_cardCopy_42 rfl ?_
      refine r_sub [1, 2, 3, 0] rfl ?_
      exact ih _ _ _ _ _ h
def fX12_cardCopy (σ : Shp) (I : Nat → Nat → Int32) (J : Nat → Nat → Int64) (R : Nat → Nat → Option Nat) (t : Nat) (x1 : Int32) : Option ((Nat → Nat → Int32) × (Nat → Nat → Int64) × (Int32)) :=
  if kdx σ t = 13 then
  (fX12_newCard σ I R t).bind fun (I2, r3) =>
  fX12_cardCopy_l7 σ R t FUx I2 J x1 r3 (0 : Int32)
  else none
theorem kX12_cardCopy {G : Gx} {l : Launch} {σ : Shp} {I : Nat → Nat → Int32} {J : Nat → Nat → Int64} {D : Nat → Nat → UInt64} {R : Nat → Nat → Option Nat} {t : Nat} {x1 : Int32} {I9 : Nat → Nat → Int32} {J9 : Nat → Nat → Int64} {r9 : Int32} (h : fX12_cardCopy σ I J R t x1 = some (I9, J9, r9)) : Con G l yX12_cardCopy cX12_cardCopy 4 (some .int) 2 43 [vR (some t), vI x1] (σ, I, J, D, R) (σ, I9, J9, D, R) (some (vI r9)) := by
  unfold fX12_cardCopy at h
  refine Con.mk (by decide +kernel) rfl (Nat.le_of_ble_eq_true rfl) ?_
  show WX12_cardCopy G l σ (σ, I9, J9, D, R) (some (vI r9)) (σ, I, J, D, R) 0 _ []
  refine r_aload_n (pc := 0) dX12_cardCopy_0 rfl 0 rfl ?_
  obtain ⟨g1, h⟩ := gd h
  obtain ⟨⟨I2, r3⟩, hc4, h⟩ := ob h
  refine r_callV1 (pc := 1) (av := []) (S := []) dX12_cardCopy_1 (kX12_newCard hc4) g1 rfl mkX12_412 mwX12_newCard rfl ⟨Nat.le_of_ble_eq_true rfl, Nat.le_of_ble_eq_true rfl⟩ (Nat.le_of_ble_eq_true rfl) ⟨Nat.le_refl _, Nat.le_refl _⟩ (fun b => b) ?_
  refine r_istore_n (pc := 4) (L' := [(2, vI r3), (0, vR (some t)), (1, vI x1)]) dX12_cardCopy_4 rfl (by decide) rfl ?_
  refine r_iconst (pc := 5) dX12_cardCopy_5 kc_iconst_0 ?_
  refine r_istore_n (pc := 6) (L' := [(3, vI (0 : Int32)), (2, vI r3), (0, vR (some t)), (1, vI x1)]) dX12_cardCopy_6 rfl (by decide) rfl ?_
  refine r_sub [2, 3, 1, 0] rfl ?_
  exact wX12_cardCopy_l7 _ _ _ _ _ _ h
abbrev WX12_copy (G : Gx) (l : Launch) (σ0 : Shp) (X1 : Stt) (rv : Option SV) : Stt → Nat → List (Nat × SV) → List SV → Prop := Wm G l yX12_copy cX12_copy 5 (some .int) (fun _ => True) (rmx 5 118 σ0 X1.1) σ0 (Qmx G σ0 X1 rv)
def fX12_copy (σ : Shp) (I : Nat → Nat → Int32) (J : Nat → Nat → Int64) (R : Nat → Nat → Option Nat) (t : Nat) (x1 : Int32) (x2 : Int32) (x3 : Int32) : Option ((Nat → Nat → Int32) × (Nat → Nat → Int64) × (Int32)) :=
  if (fX12_isBin x1) = 0 then
    some (I, J, (-2 : Int32))
  else
    if (fX12_isBin x2) = 0 then
      some (I, J, (-2 : Int32))
    else
      if kdx σ t = 13 then
      (fX12_isFull σ I t).bind fun r2 =>
      if r2 = 0 then
        ((R t 3) : Option Nat).bind fun a4 =>
        if kdx σ a4 = 20 then
        if ¬ (x2 < 0 ∨ lnx σ a4 ≤ Int32.toNatClampNeg x2) then
        let v7 := (I a4 (Int32.toNatClampNeg x2))
        if v7 = 0 then
          if ¬ (x1 < 0 ∨ lnx σ a4 ≤ Int32.toNatClampNeg x1) then
          let I9 := u2 I a4 (Int32.toNatClampNeg x1) v7
          some (I9, J, (1 : Int32))
          else none
        else
          ((R t 4) : Option Nat).bind fun a10 =>
          if kdx σ a10 = 22 then
          if ¬ (v7 < 0 ∨ lnx σ a10 ≤ Int32.toNatClampNeg v7) then
          if (I a10 (Int32.toNatClampNeg v7)) = (16 : Int32) then
            if ¬ (x1 < 0 ∨ lnx σ a4 ≤ Int32.toNatClampNeg x1) then
            let I34 := u2 I a4 (Int32.toNatClampNeg x1) v7
            some (I34, J, (1 : Int32))
            else none
          else
            (fX12_isRow σ I R t v7).bind fun r13 =>
            if r13 = 0 then
              if (I a10 (Int32.toNatClampNeg v7)) = (17 : Int32) then
                (fX12_cardCopy σ I J R t v7).bind fun (I21, J22, r23) =>
                if ¬ (x1 < 0 ∨ lnx σ a4 ≤ Int32.toNatClampNeg x1) then
                let I26 := u2 I21 a4 (Int32.toNatClampNeg x1) r23
                some (I26, J22, (1 : Int32))
                else none
              else
                (fX12_placesCopy σ I J R t v7 x3).bind fun (I15, J16, r17) =>
                if ¬ (x1 < 0 ∨ lnx σ a4 ≤ Int32.toNatClampNeg x1) then
                let I20 := u2 I15 a4 (Int32.toNatClampNeg x1) r17
                some (I20, J16, (1 : Int32))
                else none
            else
              (fX12_rowCopy σ I J R t v7).bind fun (I27, J28, r29) =>
              if ¬ (x1 < 0 ∨ lnx σ a4 ≤ Int32.toNatClampNeg x1) then
              let I32 := u2 I27 a4 (Int32.toNatClampNeg x1) r29
              some (I32, J28, (1 : Int32))
              else none
          else none
          else none
        else none
        else none
      else
        some (I, J, (-4 : Int32))
      else none
theorem kX12_copy {G : Gx} {l : Launch} {σ : Shp} {I : Nat → Nat → Int32} {J : Nat → Nat → Int64} {D : Nat → Nat → UInt64} {R : Nat → Nat → Option Nat} {t : Nat} {x1 : Int32} {x2 : Int32} {x3 : Int32} {I9 : Nat → Nat → Int32} {J9 : Nat → Nat → Int64} {r9 : Int32} (h : fX12_copy σ I J R t x1 x2 x3 = some (I9, J9, r9)) : Con G l yX12_copy cX12_copy 5 (some .int) 5 118 [vR (some t), vI x1, vI x2, vI x3] (σ, I, J, D, R) (σ, I9, J9, D, R) (some (vI r9)) := by
  unfold fX12_copy at h
  refine Con.mk (by decide +kernel) rfl (Nat.le_of_ble_eq_true rfl) ?_
  show WX12_copy G l σ (σ, I9, J9, D, R) (some (vI r9)) (σ, I, J, D, R) 0 _ []
  refine r_iload_n (pc := 0) dX12_copy_0 rfl 1 rfl ?_
  refine r_callS1 (pc := 1) (av := [vI x1]) (S := []) dX12_copy_1 (kX12_isBin rfl) mkX12_345 mwX12_isBin rfl ⟨Nat.le_of_ble_eq_true rfl, Nat.le_of_ble_eq_true rfl⟩ (Nat.le_of_ble_eq_true rfl) ⟨Nat.le_refl _, Nat.le_refl _⟩ (fun b => b) ?_
  refine r_if_eq (pc := 4) (tgt := 14) dX12_copy_4 rfl (fun c => ?_) (fun c => ?_)
  · have h := it h c
    refine r_bipush (pc := 14) dX12_copy_14 kc_bipush_m2 ?_
    cases h
    exact r_iret dX12_copy_16
  · have h := ie h c
    refine r_iload_n (pc := 7) dX12_copy_7 rfl 2 rfl ?_
    refine r_callS1 (pc := 8) (av := [vI x2]) (S := []) dX12_copy_8 (kX12_isBin rfl) mkX12_345 mwX12_isBin rfl ⟨Nat.le_of_ble_eq_true rfl, Nat.le_of_ble_eq_true rfl⟩ (Nat.le_of_ble_eq_true rfl) ⟨Nat.le_refl _, Nat.le_refl _⟩ (fun b => b) ?_
    refine r_ifne (pc := 11) (tgt := 17) dX12_copy_11 rfl (fun c => ?_) (fun c => ?_)
    · have h := ie h c
      refine r_aload_n (pc := 17) dX12_copy_17 rfl 0 rfl ?_
      obtain ⟨g1, h⟩ := gd h
      obtain ⟨r2, hc3, h⟩ := ob h
      refine r_callV1 (pc := 18) (av := []) (S := []) dX12_copy_18 (kX12_isFull hc3) g1 rfl mkX12_349 mwX12_isFull rfl ⟨Nat.le_of_ble_eq_true rfl, Nat.le_of_ble_eq_true rfl⟩ (Nat.le_of_ble_eq_true rfl) ⟨Nat.le_refl _, Nat.le_refl _⟩ (fun b => b) ?_
      refine r_if_eq (pc := 21) (tgt := 27) dX12_copy_21 rfl (fun c => ?_) (fun c => ?_)
      · have h := it h c
        refine r_aload_n (pc := 27) dX12_copy_27 rfl 0 rfl ?_
        obtain ⟨a4, ha4, h⟩ := ob h
        refine r_getS (pc := 28) dX12_copy_28 fgX12_9 rfl g1 ha4 ?_
        refine r_iload_n (pc := 31) dX12_copy_31 rfl 2 rfl ?_
        obtain ⟨g5, h⟩ := gd h
        obtain ⟨g6, h⟩ := gd h
        refine r_iaload (pc := 32) dX12_copy_32 g5 g6 ?_
        refine r_istore (pc := 33) (L' := [(4, vI (I a4 (Int32.toNatClampNeg x2))), (0, vR (some t)), (1, vI x1), (2, vI x2), (3, vI x3)]) dX12_copy_33 (by decide) rfl ?_
        refine r_aload_n (pc := 35) dX12_copy_35 rfl 1 rfl ?_
        refine r_getS (pc := 36) dX12_copy_36 fgX12_9 rfl g1 ha4 ?_
        refine r_iload_n (pc := 39) dX12_copy_39 rfl 2 rfl ?_
        refine r_iload (pc := 40) dX12_copy_40 0 rfl ?_
        refine r_if_eq (pc := 42) (tgt := 57) dX12_copy_42 rfl (fun c => ?_) (fun c => ?_)
        · have h := it h c
          refine r_iload (pc := 57) dX12_copy_57 0 rfl ?_
          refine r_goto (pc := 59) (tgt := 108) dX12_copy_59 rfl ?_
          obtain ⟨g8, h⟩ := gd h
          refine r_iastore (pc := 108) dX12_copy_108 g5 g8 ?_
          refine r_iconst (pc := 109) dX12_copy_109 kc_iconst_1 ?_
          cases h
          exact r_iret dX12_copy_110
        · have h := ie h c
          refine r_aload_n (pc := 45) dX12_copy_45 rfl 1 rfl ?_
          obtain ⟨a10, ha10, h⟩ := ob h
          refine r_getS (pc := 46) dX12_copy_46 fgX12_15 rfl g1 ha10 ?_
          refine r_iload (pc := 49) dX12_copy_49 0 rfl ?_
          obtain ⟨g11, h⟩ := gd h
          obtain ⟨g12, h⟩ := gd h
          refine r_baload (pc := 51) dX12_copy_51 g11 g12 ?_
          refine r_bipush (pc := 52) dX12_copy_52 kc_bipush_16 ?_
          refine r_icmp_ne (pc := 54) (tgt := 62) dX12_copy_54 rfl (fun c => ?_) (fun c => ?_)
          · have h := ie h c
            refine r_aload_n (pc := 62) dX12_copy_62 rfl 1 rfl ?_
            refine r_iload (pc := 63) dX12_copy_63 0 rfl ?_
            obtain ⟨r13, hc14, h⟩ := ob h
            refine r_callV1 (pc := 65) (av := [vI (I a4 (Int32.toNatClampNeg x2))]) (S := [vI x1, vR (some a4)]) dX12_copy_65 (kX12_isRow hc14) g1 rfl mkX12_396 mwX12_isRow rfl ⟨Nat.le_of_ble_eq_true rfl, Nat.le_of_ble_eq_true rfl⟩ (Nat.le_of_ble_eq_true rfl) ⟨Nat.le_refl _, Nat.le_refl _⟩ (fun b => b) ?_
            refine r_if_eq (pc := 68) (tgt := 80) dX12_copy_68 rfl (fun c => ?_) (fun c => ?_)
            · have h := it h c
              refine r_aload_n (pc := 80) dX12_copy_80 rfl 1 rfl ?_
              refine r_getS (pc := 81) dX12_copy_81 fgX12_15 rfl g1 ha10 ?_
              refine r_iload (pc := 84) dX12_copy_84 0 rfl ?_
              refine r_baload (pc := 86) dX12_copy_86 g11 g12 ?_
              refine r_bipush (pc := 87) dX12_copy_87 kc_bipush_17 ?_
              refine r_icmp_ne (pc := 89) (tgt := 101) dX12_copy_89 rfl (fun c => ?_) (fun c => ?_)
              · have h := ie h c
                refine r_aload_n (pc := 101) dX12_copy_101 rfl 1 rfl ?_
                refine r_iload (pc := 102) dX12_copy_102 0 rfl ?_
                refine r_iload_n (pc := 104) dX12_copy_104 rfl 4 rfl ?_
                obtain ⟨⟨I15, J16, r17⟩, hc18, h⟩ := ob h
                refine r_callV1 (pc := 105) (av := [vI (I a4 (Int32.toNatClampNeg x2)), vI x3]) (S := [vI x1, vR (some a4)]) dX12_copy_105 (kX12_placesCopy hc18) g1 rfl mkX12_419 mwX12_placesCopy rfl ⟨Nat.le_of_ble_eq_true rfl, Nat.le_of_ble_eq_true rfl⟩ (Nat.le_of_ble_eq_true rfl) ⟨Nat.le_refl _, Nat.le_refl _⟩ (fun b => b) ?_
                obtain ⟨g19, h⟩ := gd h
                refine r_iastore (pc := 108) dX12_copy_108 g5 g19 ?_
                refine r_iconst (pc := 109) dX12_copy_109 kc_iconst_1 ?_
                cases h
                exact r_iret dX12_copy_110
              · have h := it h c
                refine r_aload_n (pc := 92) dX12_copy_92 rfl 1 rfl ?_
                refine r_iload (pc := 93) dX12_copy_93 0 rfl ?_
                obtain ⟨⟨I21, J22, r23⟩, hc24, h⟩ := ob h
                refine r_callV1 (pc := 95) (av := [vI (I a4 (Int32.toNatClampNeg x2))]) (S := [vI x1, vR (some a4)]) dX12_copy_95 (kX12_cardCopy hc24) g1 rfl mkX12_416 mwX12_cardCopy rfl ⟨Nat.le_of_ble_eq_true rfl, Nat.le_of_ble_eq_true rfl⟩ (Nat.le_of_ble_eq_true rfl) ⟨Nat.le_refl _, Nat.le_refl _⟩ (fun b => b) ?_
                refine r_goto (pc := 98) (tgt := 108) dX12_copy_98 rfl ?_
                obtain ⟨g25, h⟩ := gd h
                refine r_iastore (pc := 108) dX12_copy_108 g5 g25 ?_
                refine r_iconst (pc := 109) dX12_copy_109 kc_iconst_1 ?_
                cases h
                exact r_iret dX12_copy_110
            · have h := ie h c
              refine r_aload_n (pc := 71) dX12_copy_71 rfl 1 rfl ?_
              refine r_iload (pc := 72) dX12_copy_72 0 rfl ?_
              obtain ⟨⟨I27, J28, r29⟩, hc30, h⟩ := ob h
              refine r_callV1 (pc := 74) (av := [vI (I a4 (Int32.toNatClampNeg x2))]) (S := [vI x1, vR (some a4)]) dX12_copy_74 (kX12_rowCopy hc30) g1 rfl mkX12_406 mwX12_rowCopy rfl ⟨Nat.le_of_ble_eq_true rfl, Nat.le_of_ble_eq_true rfl⟩ (Nat.le_of_ble_eq_true rfl) ⟨Nat.le_refl _, Nat.le_refl _⟩ (fun b => b) ?_
              refine r_goto (pc := 77) (tgt := 108) dX12_copy_77 rfl ?_
              obtain ⟨g31, h⟩ := gd h
              refine r_iastore (pc := 108) dX12_copy_108 g5 g31 ?_
              refine r_iconst (pc := 109) dX12_copy_109 kc_iconst_1 ?_
              cases h
              exact r_iret dX12_copy_110
          · have h := it h c
            refine r_iload (pc := 57) dX12_copy_57 0 rfl ?_
            refine r_goto (pc := 59) (tgt := 108) dX12_copy_59 rfl ?_
            obtain ⟨g33, h⟩ := gd h
            refine r_iastore (pc := 108) dX12_copy_108 g5 g33 ?_
            refine r_iconst (pc := 109) dX12_copy_109 kc_iconst_1 ?_
            cases h
            exact r_iret dX12_copy_110
      · have h := ie h c
        refine r_bipush (pc := 24) dX12_copy_24 kc_bipush_m4 ?_
        cases h
        exact r_iret dX12_copy_26
    · have h := it h c
      refine r_bipush (pc := 14) dX12_copy_14 kc_bipush_m2 ?_
      cases h
      exact r_iret dX12_copy_16
abbrev WX12_areRowsAlike (G : Gx) (l : Launch) (σ0 : Shp) (X1 : Stt) (rv : Option SV) : Stt → Nat → List (Nat × SV) → List SV → Prop := Wm G l yX12_areRowsAlike cX12_areRowsAlike 5 (some .boolean) (fun _ => True) (rmx 0 0 σ0 X1.1) σ0 (Qmx G σ0 X1 rv)
def fX12_areRowsAlike_l39  (σ : Shp) (I : Nat → Nat → Int32) (J : Nat → Nat → Int64) (R : Nat → Nat → Option Nat) (t : Nat) : Nat → (Int32) → (Int32) → (Int32) → (Int32) → Option ((Int32))
  | 0, _, _, _, _ => none
  | n + 1, x1, x2, x3, x4 =>
    if kdx σ t = 13 then
    ((R t 5) : Option Nat).bind fun a7 =>
    if kdx σ a7 = 22 then
    if ¬ (x1 < 0 ∨ lnx σ a7 ≤ Int32.toNatClampNeg x1) then
    if (I a7 (Int32.toNatClampNeg x1)) ≤ x4 then
      if x3 = 0 ∨ x3 = 1 then
      some x3
      else none
    else
      if x3 = 0 then
        if x3 = 0 ∨ x3 = 1 then
        some x3
        else none
      else
        ((R t 8) : Option Nat).bind fun a12 =>
        ((R t 6) : Option Nat).bind fun a13 =>
        if kdx σ a13 = 20 then
        if ¬ (x1 < 0 ∨ lnx σ a13 ≤ Int32.toNatClampNeg x1) then
        if kdx σ a12 = 21 then
        if ¬ (((I a13 (Int32.toNatClampNeg x1)) + x4) < 0 ∨ lnx σ a12 ≤ Int32.toNatClampNeg ((I a13 (Int32.toNatClampNeg x1)) + x4)) then
        if ¬ (x2 < 0 ∨ lnx σ a13 ≤ Int32.toNatClampNeg x2) then
        if ¬ (((I a13 (Int32.toNatClampNeg x2)) + x4) < 0 ∨ lnx σ a12 ≤ Int32.toNatClampNeg ((I a13 (Int32.toNatClampNeg x2)) + x4)) then
        if (J a12 (Int32.toNatClampNeg ((I a13 (Int32.toNatClampNeg x1)) + x4))) = (J a12 (Int32.toNatClampNeg ((I a13 (Int32.toNatClampNeg x2)) + x4))) then
          let v21 := x4 + (1 : Int32)
          fX12_areRowsAlike_l39 σ I J R t n x1 x2 (1 : Int32) v21
        else
          let v20 := x4 + (1 : Int32)
          fX12_areRowsAlike_l39 σ I J R t n x1 x2 (0 : Int32) v20
        else none
        else none
        else none
        else none
        else none
        else none
    else none
    else none
    else none
theorem wX12_areRowsAlike_l39 {G : Gx} {l : Launch} {σ : Shp} {I : Nat → Nat → Int32} {J : Nat → Nat → Int64} {D : Nat → Nat → UInt64} {R : Nat → Nat → Option Nat} {t : Nat} {r9 : Int32} : ∀ (n : Nat) (x1 : Int32) (x2 : Int32) (x3 : Int32) (x4 : Int32), fX12_areRowsAlike_l39 σ I J R t n x1 x2 x3 x4 = some r9 → WX12_areRowsAlike G l σ (σ, I, J, D, R) (some (vI r9)) (σ, I, J, D, R) 39 [(0, vR (some t)), (1, vI x1), (2, vI x2), (3, vI x3), (4, vI x4)] [] := by
  intro n
  induction n with
  | zero =>
    intro x1 x2 x3 x4 h
    have h : none = some _ := h
    cases h
  | succ n ih =>
    intro x1 x2 x3 x4 h
    rw [fX12_areRowsAlike_l39] at h
    refine r_iload (pc := 39) dX12_areRowsAlike_39 4 rfl ?_
    refine r_aload_n (pc := 41) dX12_areRowsAlike_41 rfl 0 rfl ?_
    obtain ⟨g6, h⟩ := gd h
    obtain ⟨a7, ha7, h⟩ := ob h
    refine r_getS (pc := 42) dX12_areRowsAlike_42 fgX12_19 rfl g6 ha7 ?_
    refine r_iload_n (pc := 45) dX12_areRowsAlike_45 rfl 1 rfl ?_
    obtain ⟨g8, h⟩ := gd h
    obtain ⟨g9, h⟩ := gd h
    refine r_baload (pc := 46) dX12_areRowsAlike_46 g8 g9 ?_
    refine r_icmp_ge (pc := 47) (tgt := 98) dX12_areRowsAlike_47 rfl (fun c => ?_) (fun c => ?_)
    · have h := it h c
      refine r_iload_n (pc := 98) dX12_areRowsAlike_98 rfl 3 rfl ?_
      obtain ⟨g10, h⟩ := gd h
      cases h
      exact r_zret dX12_areRowsAlike_99 g10
    · have h := ie h c
      refine r_iload_n (pc := 50) dX12_areRowsAlike_50 rfl 3 rfl ?_
      refine r_if_eq (pc := 51) (tgt := 98) dX12_areRowsAlike_51 rfl (fun c => ?_) (fun c => ?_)
      · have h := it h c
        refine r_iload_n (pc := 98) dX12_areRowsAlike_98 rfl 3 rfl ?_
        obtain ⟨g11, h⟩ := gd h
        cases h
        exact r_zret dX12_areRowsAlike_99 g11
      · have h := ie h c
        refine r_aload_n (pc := 54) dX12_areRowsAlike_54 rfl 0 rfl ?_
        obtain ⟨a12, ha12, h⟩ := ob h
        refine r_getS (pc := 55) dX12_areRowsAlike_55 fgX12_26 rfl g6 ha12 ?_
        refine r_aload_n (pc := 58) dX12_areRowsAlike_58 rfl 0 rfl ?_
        obtain ⟨a13, ha13, h⟩ := ob h
        refine r_getS (pc := 59) dX12_areRowsAlike_59 fgX12_22 rfl g6 ha13 ?_
        refine r_iload_n (pc := 62) dX12_areRowsAlike_62 rfl 1 rfl ?_
        obtain ⟨g14, h⟩ := gd h
        obtain ⟨g15, h⟩ := gd h
        refine r_iaload (pc := 63) dX12_areRowsAlike_63 g14 g15 ?_
        refine r_iload (pc := 64) dX12_areRowsAlike_64 4 rfl ?_
        refine r_iadd (pc := 66) dX12_areRowsAlike_66 ?_
        obtain ⟨g16, h⟩ := gd h
        obtain ⟨g17, h⟩ := gd h
        refine r_laload (pc := 67) dX12_areRowsAlike_67 g16 g17 ?_
        refine r_aload_n (pc := 68) dX12_areRowsAlike_68 rfl 0 rfl ?_
        refine r_getS (pc := 69) dX12_areRowsAlike_69 fgX12_26 rfl g6 ha12 ?_
        refine r_aload_n (pc := 72) dX12_areRowsAlike_72 rfl 0 rfl ?_
        refine r_getS (pc := 73) dX12_areRowsAlike_73 fgX12_22 rfl g6 ha13 ?_
        refine r_iload_n (pc := 76) dX12_areRowsAlike_76 rfl 2 rfl ?_
        obtain ⟨g18, h⟩ := gd h
        refine r_iaload (pc := 77) dX12_areRowsAlike_77 g14 g18 ?_
        refine r_iload (pc := 78) dX12_areRowsAlike_78 4 rfl ?_
        refine r_iadd (pc := 80) dX12_areRowsAlike_80 ?_
        obtain ⟨g19, h⟩ := gd h
        refine r_laload (pc := 81) dX12_areRowsAlike_81 g16 g19 ?_
        refine r_lcmp (pc := 82) dX12_areRowsAlike_82 ?_
        refine r_ifne (pc := 83) (tgt := 90) dX12_areRowsAlike_83 rfl (fun c => ?_) (fun c => ?_)
        · have h := ie h (fun q => c (lgc_eq.mpr q))
          refine r_iconst (pc := 90) dX12_areRowsAlike_90 kc_iconst_0 ?_
          refine r_istore_n (pc := 91) (L' := [(3, vI (0 : Int32)), (0, vR (some t)), (1, vI x1), (2, vI x2), (4, vI x4)]) dX12_areRowsAlike_91 rfl (by decide) rfl ?_
          refine r_iinc (pc := 92) (v := (x4 + (1 : Int32))) (L' := [(4, vI (x4 + (1 : Int32))), (3, vI (0 : Int32)), (0, vR (some t)), (1, vI x1), (2, vI x2)]) dX12_areRowsAlike_92 4 rfl (kc_inc_1 _) (by decide) rfl ?_
          refine r_goto (pc := 95) (tgt := 39) dX12_areRowsAlike_95 rfl ?_
          refine r_sub [2, 3, 4, 1, 0] rfl ?_
          exact ih _ _ _ _ h
        · have h := it h (lgc_eq.mp c)
          refine r_iconst (pc := 86) dX12_areRowsAlike_86 kc_iconst_1 ?_
          refine r_goto (pc := 87) (tgt := 91) dX12_areRowsAlike_87 rfl ?_
          refine r_istore_n (pc := 91) (L' := [(3, vI (1 : Int32)), (0, vR (some t)), (1, vI x1), (2, vI x2), (4, vI x4)]) dX12_areRowsAlike_91 rfl (by decide) rfl ?_
          refine r_iinc (pc := 92) (v := (x4 + (1 : Int32))) (L' := [(4, vI (x4 + (1 : Int32))), (3, vI (1 : Int32)), (0, vR (some t)), (1, vI x1), (2, vI x2)]) dX12_areRowsAlike_92 4 rfl (kc_inc_1 _) (by decide) rfl ?_
          refine r_goto (pc := 95) (tgt := 39) dX12_areRowsAlike_95 rfl ?_
          refine r_sub [2, 3, 4, 1, 0] rfl ?_
          exact ih _ _ _ _ h
def fX12_areRowsAlike (σ : Shp) (I : Nat → Nat → Int32) (J : Nat → Nat → Int64) (R : Nat → Nat → Option Nat) (t : Nat) (x1 : Int32) (x2 : Int32) : Option ((Int32)) :=
  if kdx σ t = 13 then
  ((R t 4) : Option Nat).bind fun a2 =>
  if kdx σ a2 = 22 then
  if ¬ (x1 < 0 ∨ lnx σ a2 ≤ Int32.toNatClampNeg x1) then
  if ¬ (x2 < 0 ∨ lnx σ a2 ≤ Int32.toNatClampNeg x2) then
  if (I a2 (Int32.toNatClampNeg x1)) = (I a2 (Int32.toNatClampNeg x2)) then
    ((R t 5) : Option Nat).bind fun a22 =>
    if kdx σ a22 = 22 then
    if ¬ (x1 < 0 ∨ lnx σ a22 ≤ Int32.toNatClampNeg x1) then
    if ¬ (x2 < 0 ∨ lnx σ a22 ≤ Int32.toNatClampNeg x2) then
    if (I a22 (Int32.toNatClampNeg x1)) = (I a22 (Int32.toNatClampNeg x2)) then
      fX12_areRowsAlike_l39 σ I J R t FUx x1 x2 (1 : Int32) (0 : Int32)
    else
      fX12_areRowsAlike_l39 σ I J R t FUx x1 x2 (0 : Int32) (0 : Int32)
    else none
    else none
    else none
  else
    fX12_areRowsAlike_l39 σ I J R t FUx x1 x2 (0 : Int32) (0 : Int32)
  else none
  else none
  else none
  else none
theorem kX12_areRowsAlike {G : Gx} {l : Launch} {σ : Shp} {I : Nat → Nat → Int32} {J : Nat → Nat → Int64} {D : Nat → Nat → UInt64} {R : Nat → Nat → Option Nat} {t : Nat} {x1 : Int32} {x2 : Int32} {r9 : Int32} (h : fX12_areRowsAlike σ I J R t x1 x2 = some r9) : Con G l yX12_areRowsAlike cX12_areRowsAlike 5 (some .boolean) 0 0 [vR (some t), vI x1, vI x2] (σ, I, J, D, R) (σ, I, J, D, R) (some (vI r9)) := by
  unfold fX12_areRowsAlike at h
  refine Con.mk (by decide +kernel) rfl (Nat.le_of_ble_eq_true rfl) ?_
  show WX12_areRowsAlike G l σ (σ, I, J, D, R) (some (vI r9)) (σ, I, J, D, R) 0 _ []
  refine r_aload_n (pc := 0) dX12_areRowsAlike_0 rfl 0 rfl ?_
  obtain ⟨g1, h⟩ := gd h
  obtain ⟨a2, ha2, h⟩ := ob h
  refine r_getS (pc := 1) dX12_areRowsAlike_1 fgX12_15 rfl g1 ha2 ?_
  refine r_iload_n (pc := 4) dX12_areRowsAlike_4 rfl 1 rfl ?_
  obtain ⟨g3, h⟩ := gd h
  obtain ⟨g4, h⟩ := gd h
  refine r_baload (pc := 5) dX12_areRowsAlike_5 g3 g4 ?_
  refine r_aload_n (pc := 6) dX12_areRowsAlike_6 rfl 0 rfl ?_
  refine r_getS (pc := 7) dX12_areRowsAlike_7 fgX12_15 rfl g1 ha2 ?_
  refine r_iload_n (pc := 10) dX12_areRowsAlike_10 rfl 2 rfl ?_
  obtain ⟨g5, h⟩ := gd h
  refine r_baload (pc := 11) dX12_areRowsAlike_11 g3 g5 ?_
  refine r_icmp_ne (pc := 12) (tgt := 34) dX12_areRowsAlike_12 rfl (fun c => ?_) (fun c => ?_)
  · have h := ie h c
    refine r_iconst (pc := 34) dX12_areRowsAlike_34 kc_iconst_0 ?_
    refine r_istore_n (pc := 35) (L' := [(3, vI (0 : Int32)), (0, vR (some t)), (1, vI x1), (2, vI x2)]) dX12_areRowsAlike_35 rfl (by decide) rfl ?_
    refine r_iconst (pc := 36) dX12_areRowsAlike_36 kc_iconst_0 ?_
    refine r_istore (pc := 37) (L' := [(4, vI (0 : Int32)), (3, vI (0 : Int32)), (0, vR (some t)), (1, vI x1), (2, vI x2)]) dX12_areRowsAlike_37 (by decide) rfl ?_
    refine r_sub [2, 3, 4, 1, 0] rfl ?_
    exact wX12_areRowsAlike_l39 _ _ _ _ _ h
  · have h := it h c
    refine r_aload_n (pc := 15) dX12_areRowsAlike_15 rfl 0 rfl ?_
    obtain ⟨a22, ha22, h⟩ := ob h
    refine r_getS (pc := 16) dX12_areRowsAlike_16 fgX12_19 rfl g1 ha22 ?_
    refine r_iload_n (pc := 19) dX12_areRowsAlike_19 rfl 1 rfl ?_
    obtain ⟨g23, h⟩ := gd h
    obtain ⟨g24, h⟩ := gd h
    refine r_baload (pc := 20) dX12_areRowsAlike_20 g23 g24 ?_
    refine r_aload_n (pc := 21) dX12_areRowsAlike_21 rfl 0 rfl ?_
    refine r_getS (pc := 22) dX12_areRowsAlike_22 fgX12_19 rfl g1 ha22 ?_
    refine r_iload_n (pc := 25) dX12_areRowsAlike_25 rfl 2 rfl ?_
    obtain ⟨g25, h⟩ := gd h
    refine r_baload (pc := 26) dX12_areRowsAlike_26 g23 g25 ?_
    refine r_icmp_ne (pc := 27) (tgt := 34) dX12_areRowsAlike_27 rfl (fun c => ?_) (fun c => ?_)
    · have h := ie h c
      refine r_iconst (pc := 34) dX12_areRowsAlike_34 kc_iconst_0 ?_
      refine r_istore_n (pc := 35) (L' := [(3, vI (0 : Int32)), (0, vR (some t)), (1, vI x1), (2, vI x2)]) dX12_areRowsAlike_35 rfl (by decide) rfl ?_
      refine r_iconst (pc := 36) dX12_areRowsAlike_36 kc_iconst_0 ?_
      refine r_istore (pc := 37) (L' := [(4, vI (0 : Int32)), (3, vI (0 : Int32)), (0, vR (some t)), (1, vI x1), (2, vI x2)]) dX12_areRowsAlike_37 (by decide) rfl ?_
      refine r_sub [2, 3, 4, 1, 0] rfl ?_
      exact wX12_areRowsAlike_l39 _ _ _ _ _ h
    · have h := it h c
      refine r_iconst (pc := 30) dX12_areRowsAlike_30 kc_iconst_1 ?_
      refine r_goto (pc := 31) (tgt := 35) dX12_areRowsAlike_31 rfl ?_
      refine r_istore_n (pc := 35) (L' := [(3, vI (1 : Int32)), (0, vR (some t)), (1, vI x1), (2, vI x2)]) dX12_areRowsAlike_35 rfl (by decide) rfl ?_
      refine r_iconst (pc := 36) dX12_areRowsAlike_36 kc_iconst_0 ?_
      refine r_istore (pc := 37) (L' := [(4, vI (0 : Int32)), (3, vI (1 : Int32)), (0, vR (some t)), (1, vI x1), (2, vI x2)]) dX12_areRowsAlike_37 (by decide) rfl ?_
      refine r_sub [2, 3, 4, 1, 0] rfl ?_
      exact wX12_areRowsAlike_l39 _ _ _ _ _ h
abbrev WX12_areGridsAlike (G : Gx) (l : Launch) (σ0 : Shp) (X1 : Stt) (rv : Option SV) : Stt → Nat → List (Nat × SV) → List SV → Prop := Wm G l yX12_areGridsAlike cX12_areGridsAlike 7 (some .boolean) (fun _ => True) (rmx 1 24 σ0 X1.1) σ0 (Qmx G σ0 X1 rv)
def fX12_areGridsAlike_l39  (σ : Shp) (I : Nat → Nat → Int32) (J : Nat → Nat → Int64) (R : Nat → Nat → Option Nat) (t : Nat) : Nat → (Int32) → (Int32) → (Int32) → (Int32) → Option ((Int32))
  | 0, _, _, _, _ => none
  | n + 1, x1, x2, x3, x4 =>
    if kdx σ t = 13 then
    ((R t 5) : Option Nat).bind fun a7 =>
    if kdx σ a7 = 22 then
    if ¬ (x1 < 0 ∨ lnx σ a7 ≤ Int32.toNatClampNeg x1) then
    if (I a7 (Int32.toNatClampNeg x1)) ≤ x4 then
      if x3 = 0 ∨ x3 = 1 then
      some x3
      else none
    else
      if x3 = 0 then
        if x3 = 0 ∨ x3 = 1 then
        some x3
        else none
      else
        ((R t 10) : Option Nat).bind fun a12 =>
        ((R t 6) : Option Nat).bind fun a13 =>
        if kdx σ a13 = 20 then
        if ¬ (x1 < 0 ∨ lnx σ a13 ≤ Int32.toNatClampNeg x1) then
        if kdx σ a12 = 23 then
        if ¬ (((I a13 (Int32.toNatClampNeg x1)) + x4) < 0 ∨ lnx σ a12 ≤ Int32.toNatClampNeg ((I a13 (Int32.toNatClampNeg x1)) + x4)) then
        let v18 := (I a12 (Int32.toNatClampNeg ((I a13 (Int32.toNatClampNeg x1)) + x4)))
        if ¬ (x2 < 0 ∨ lnx σ a13 ≤ Int32.toNatClampNeg x2) then
        if ¬ (((I a13 (Int32.toNatClampNeg x2)) + x4) < 0 ∨ lnx σ a12 ≤ Int32.toNatClampNeg ((I a13 (Int32.toNatClampNeg x2)) + x4)) then
        let v21 := (I a12 (Int32.toNatClampNeg ((I a13 (Int32.toNatClampNeg x2)) + x4)))
        if v18 = v21 then
          let v22 := x4 + (1 : Int32)
          fX12_areGridsAlike_l39 σ I J R t n x1 x2 (1 : Int32) v22
        else
          if v18 = 0 then
            let v23 := x4 + (1 : Int32)
            fX12_areGridsAlike_l39 σ I J R t n x1 x2 (0 : Int32) v23
          else
            if v21 = 0 then
              let v24 := x4 + (1 : Int32)
              fX12_areGridsAlike_l39 σ I J R t n x1 x2 (0 : Int32) v24
            else
              (fX12_areRowsAlike σ I J R t v18 v21).bind fun r25 =>
              if r25 = 0 then
                let v27 := x4 + (1 : Int32)
                fX12_areGridsAlike_l39 σ I J R t n x1 x2 (0 : Int32) v27
              else
                let v28 := x4 + (1 : Int32)
                fX12_areGridsAlike_l39 σ I J R t n x1 x2 (1 : Int32) v28
        else none
        else none
        else none
        else none
        else none
        else none
    else none
    else none
    else none
theorem wX12_areGridsAlike_l39 {G : Gx} {l : Launch} {σ : Shp} {I : Nat → Nat → Int32} {J : Nat → Nat → Int64} {D : Nat → Nat → UInt64} {R : Nat → Nat → Option Nat} {t : Nat} {r9 : Int32} : ∀ (n : Nat) (x1 : Int32) (x2 : Int32) (x3 : Int32) (x4 : Int32), fX12_areGridsAlike_l39 σ I J R t n x1 x2 x3 x4 = some r9 → WX12_areGridsAlike G l σ (σ, I, J, D, R) (some (vI r9)) (σ, I, J, D, R) 39 [(0, vR (some t)), (1, vI x1), (2, vI x2), (3, vI x3), (4, vI x4)] [] := by
  intro n
  induction n with
  | zero =>
    intro x1 x2 x3 x4 h
    have h : none = some _ := h
    cases h
  | succ n ih =>
    intro x1 x2 x3 x4 h
    rw [fX12_areGridsAlike_l39] at h
    refine r_iload (pc := 39) dX12_areGridsAlike_39 4 rfl ?_
    refine r_aload_n (pc := 41) dX12_areGridsAlike_41 rfl 0 rfl ?_
    obtain ⟨g6, h⟩ := gd h
    obtain ⟨a7, ha7, h⟩ := ob h
    refine r_getS (pc := 42) dX12_areGridsAlike_42 fgX12_19 rfl g6 ha7 ?_
    refine r_iload_n (pc := 45) dX12_areGridsAlike_45 rfl 1 rfl ?_
    obtain ⟨g8, h⟩ := gd h
    obtain ⟨g9, h⟩ := gd h
    refine r_baload (pc := 46) dX12_areGridsAlike_46 g8 g9 ?_
    refine r_icmp_ge (pc := 47) (tgt := 126) dX12_areGridsAlike_47 rfl (fun c => ?_) (fun c => ?_)
    · have h := it h c
      refine r_iload_n (pc := 126) dX12_areGridsAlike_126 rfl 3 rfl ?_
      obtain ⟨g10, h⟩ := gd h
      cases h
      exact r_zret dX12_areGridsAlike_127 g10
    · have h := ie h c
      refine r_iload_n (pc := 50) dX12_areGridsAlike_50 rfl 3 rfl ?_
      refine r_if_eq (pc := 51) (tgt := 126) dX12_areGridsAlike_51 rfl (fun c => ?_) (fun c => ?_)
      · have h := it h c
        refine r_iload_n (pc := 126) dX12_areGridsAlike_126 rfl 3 rfl ?_
        obtain ⟨g11, h⟩ := gd h
        cases h
        exact r_zret dX12_areGridsAlike_127 g11
      · have h := ie h c
        refine r_aload_n (pc := 54) dX12_areGridsAlike_54 rfl 0 rfl ?_
        obtain ⟨a12, ha12, h⟩ := ob h
        refine r_getS (pc := 55) dX12_areGridsAlike_55 fgX12_31 rfl g6 ha12 ?_
        refine r_aload_n (pc := 58) dX12_areGridsAlike_58 rfl 0 rfl ?_
        obtain ⟨a13, ha13, h⟩ := ob h
        refine r_getS (pc := 59) dX12_areGridsAlike_59 fgX12_22 rfl g6 ha13 ?_
        refine r_iload_n (pc := 62) dX12_areGridsAlike_62 rfl 1 rfl ?_
        obtain ⟨g14, h⟩ := gd h
        obtain ⟨g15, h⟩ := gd h
        refine r_iaload (pc := 63) dX12_areGridsAlike_63 g14 g15 ?_
        refine r_iload (pc := 64) dX12_areGridsAlike_64 4 rfl ?_
        refine r_iadd (pc := 66) dX12_areGridsAlike_66 ?_
        obtain ⟨g16, h⟩ := gd h
        obtain ⟨g17, h⟩ := gd h
        refine r_saload (pc := 67) dX12_areGridsAlike_67 g16 g17 ?_
        refine r_istore (pc := 68) (L' := [(5, vI (I a12 (Int32.toNatClampNeg ((I a13 (Int32.toNatClampNeg x1)) + x4)))), (0, vR (some t)), (1, vI x1), (2, vI x2), (3, vI x3), (4, vI x4)]) dX12_areGridsAlike_68 (by decide) rfl ?_
        refine r_aload_n (pc := 70) dX12_areGridsAlike_70 rfl 1 rfl ?_
        refine r_getS (pc := 71) dX12_areGridsAlike_71 fgX12_31 rfl g6 ha12 ?_
        refine r_aload_n (pc := 74) dX12_areGridsAlike_74 rfl 1 rfl ?_
        refine r_getS (pc := 75) dX12_areGridsAlike_75 fgX12_22 rfl g6 ha13 ?_
        refine r_iload_n (pc := 78) dX12_areGridsAlike_78 rfl 3 rfl ?_
        obtain ⟨g19, h⟩ := gd h
        refine r_iaload (pc := 79) dX12_areGridsAlike_79 g14 g19 ?_
        refine r_iload (pc := 80) dX12_areGridsAlike_80 5 rfl ?_
        refine r_iadd (pc := 82) dX12_areGridsAlike_82 ?_
        obtain ⟨g20, h⟩ := gd h
        refine r_saload (pc := 83) dX12_areGridsAlike_83 g16 g20 ?_
        refine r_istore (pc := 84) (L' := [(6, vI (I a12 (Int32.toNatClampNeg ((I a13 (Int32.toNatClampNeg x2)) + x4)))), (5, vI (I a12 (Int32.toNatClampNeg ((I a13 (Int32.toNatClampNeg x1)) + x4)))), (0, vR (some t)), (1, vI x1), (2, vI x2), (3, vI x3), (4, vI x4)]) dX12_areGridsAlike_84 (by decide) rfl ?_
        refine r_iload (pc := 86) dX12_areGridsAlike_86 1 rfl ?_
        refine r_iload (pc := 88) dX12_areGridsAlike_88 0 rfl ?_
        refine r_icmp_eq (pc := 90) (tgt := 114) dX12_areGridsAlike_90 rfl (fun c => ?_) (fun c => ?_)
        · have h := it h c
          refine r_iconst (pc := 114) dX12_areGridsAlike_114 kc_iconst_1 ?_
          refine r_goto (pc := 115) (tgt := 119) dX12_areGridsAlike_115 rfl ?_
          refine r_istore_n (pc := 119) (L' := [(3, vI (1 : Int32)), (6, vI (I a12 (Int32.toNatClampNeg ((I a13 (Int32.toNatClampNeg x2)) + x4)))), (5, vI (I a12 (Int32.toNatClampNeg ((I a13 (Int32.toNatClampNeg x1)) + x4)))), (0, vR (some t)), (1, vI x1), (2, vI x2), (4, vI x4)]) dX12_areGridsAlike_119 rfl (by decide) rfl ?_
          refine r_iinc (pc := 120) (v := (x4 + (1 : Int32))) (L' := [(4, vI (x4 + (1 : Int32))), (3, vI (1 : Int32)), (6, vI (I a12 (Int32.toNatClampNeg ((I a13 (Int32.toNatClampNeg x2)) + x4)))), (5, vI (I a12 (Int32.toNatClampNeg ((I a13 (Int32.toNatClampNeg x1)) + x4)))), (0, vR (some t)), (1, vI x1), (2, vI x2)]) dX12_areGridsAlike_120 6 rfl (kc_inc_1 _) (by decide) rfl ?_
          refine r_goto (pc := 123) (tgt := 39) dX12_areGridsAlike_123 rfl ?_
          refine r_sub [4, 5, 6, 1, 0] rfl ?_
          exact ih _ _ _ _ h
        · have h := ie h c
          refine r_iload (pc := 93) dX12_areGridsAlike_93 1 rfl ?_
          refine r_if_eq (pc := 95) (tgt := 118) dX12_areGridsAlike_95 rfl (fun c => ?_) (fun c => ?_)
          · have h := it h c
            refine r_iconst (pc := 118) dX12_areGridsAlike_118 kc_iconst_0 ?_
            refine r_istore_n (pc := 119) (L' := [(3, vI (0 : Int32)), (6, vI (I a12 (Int32.toNatClampNeg ((I a13 (Int32.toNatClampNeg x2)) + x4)))), (5, vI (I a12 (Int32.toNatClampNeg ((I a13 (Int32.toNatClampNeg x1)) + x4)))), (0, vR (some t)), (1, vI x1), (2, vI x2), (4, vI x4)]) dX12_areGridsAlike_119 rfl (by decide) rfl ?_
            refine r_iinc (pc := 120) (v := (x4 + (1 : Int32))) (L' := [(4, vI (x4 + (1 : Int32))), (3, vI (0 : Int32)), (6, vI (I a12 (Int32.toNatClampNeg ((I a13 (Int32.toNatClampNeg x2)) + x4)))), (5, vI (I a12 (Int32.toNatClampNeg ((I a13 (Int32.toNatClampNeg x1)) + x4)))), (0, vR (some t)), (1, vI x1), (2, vI x2)]) dX12_areGridsAlike_120 6 rfl (kc_inc_1 _) (by decide) rfl ?_
            refine r_goto (pc := 123) (tgt := 39) dX12_areGridsAlike_123 rfl ?_
            refine r_sub [4, 5, 6, 1, 0] rfl ?_
            exact ih _ _ _ _ h
          · have h := ie h c
            refine r_iload (pc := 98) dX12_areGridsAlike_98 0 rfl ?_
            refine r_if_eq (pc := 100) (tgt := 118) dX12_areGridsAlike_100 rfl (fun c => ?_) (fun c => ?_)
            · have h := it h c
              refine r_iconst (pc := 118) dX12_areGridsAlike_118 kc_iconst_0 ?_
              refine r_istore_n (pc := 119) (L' := [(3, vI (0 : Int32)), (6, vI (I a12 (Int32.toNatClampNeg ((I a13 (Int32.toNatClampNeg x2)) + x4)))), (5, vI (I a12 (Int32.toNatClampNeg ((I a13 (Int32.toNatClampNeg x1)) + x4)))), (0, vR (some t)), (1, vI x1), (2, vI x2), (4, vI x4)]) dX12_areGridsAlike_119 rfl (by decide) rfl ?_
              refine r_iinc (pc := 120) (v := (x4 + (1 : Int32))) (L' := [(4, vI (x4 + (1 : Int32))), (3, vI (0 : Int32)), (6, vI (I a12 (Int32.toNatClampNeg ((I a13 (Int32.toNatClampNeg x2)) + x4)))), (5, vI (I a12 (Int32.toNatClampNeg ((I a13 (Int32.toNatClampNeg x1)) + x4)))), (0, vR (some t)), (1, vI x1), (2, vI x2)]) dX12_areGridsAlike_120 6 rfl (kc_inc_1 _) (by decide) rfl ?_
              refine r_goto (pc := 123) (tgt := 39) dX12_areGridsAlike_123 rfl ?_
              refine r_sub [4, 5, 6, 1, 0] rfl ?_
              exact ih _ _ _ _ h
            · have h := ie h c
              refine r_aload_n (pc := 103) dX12_areGridsAlike_103 rfl 2 rfl ?_
              refine r_iload (pc := 104) dX12_areGridsAlike_104 1 rfl ?_
              refine r_iload (pc := 106) dX12_areGridsAlike_106 0 rfl ?_
              obtain ⟨r25, hc26, h⟩ := ob h
              refine r_callV1 (pc := 108) (av := [vI (I a12 (Int32.toNatClampNeg ((I a13 (Int32.toNatClampNeg x1)) + x4))), vI (I a12 (Int32.toNatClampNeg ((I a13 (Int32.toNatClampNeg x2)) + x4)))]) (S := []) dX12_areGridsAlike_108 (kX12_areRowsAlike hc26) g6 rfl mkX12_423 mwX12_areRowsAlike rfl ⟨Nat.le_of_ble_eq_true rfl, Nat.le_of_ble_eq_true rfl⟩ (Nat.le_of_ble_eq_true rfl) ⟨Nat.le_refl _, Nat.le_refl _⟩ (fun b => b) ?_
              refine r_if_eq (pc := 111) (tgt := 118) dX12_areGridsAlike_111 rfl (fun c => ?_) (fun c => ?_)
              · have h := it h c
                refine r_iconst (pc := 118) dX12_areGridsAlike_118 kc_iconst_0 ?_
                refine r_istore_n (pc := 119) (L' := [(3, vI (0 : Int32)), (6, vI (I a12 (Int32.toNatClampNeg ((I a13 (Int32.toNatClampNeg x2)) + x4)))), (5, vI (I a12 (Int32.toNatClampNeg ((I a13 (Int32.toNatClampNeg x1)) + x4)))), (0, vR (some t)), (1, vI x1), (2, vI x2), (4, vI x4)]) dX12_areGridsAlike_119 rfl (by decide) rfl ?_
                refine r_iinc (pc := 120) (v := (x4 + (1 : Int32))) (L' := [(4, vI (x4 + (1 : Int32))), (3, vI (0 : Int32)), (6, vI (I a12 (Int32.toNatClampNeg ((I a13 (Int32.toNatClampNeg x2)) + x4)))), (5, vI (I a12 (Int32.toNatClampNeg ((I a13 (Int32.toNatClampNeg x1)) + x4)))), (0, vR (some t)), (1, vI x1), (2, vI x2)]) dX12_areGridsAlike_120 6 rfl (kc_inc_1 _) (by decide) rfl ?_
                refine r_goto (pc := 123) (tgt := 39) dX12_areGridsAlike_123 rfl ?_
                refine r_sub [4, 5, 6, 1, 0] rfl ?_
                exact ih _ _ _ _ h
              · have h := ie h c
                refine r_iconst (pc := 114) dX12_areGridsAlike_114 kc_iconst_1 ?_
                refine r_goto (pc := 115) (tgt := 119) dX12_areGridsAlike_115 rfl ?_
                refine r_istore_n (pc := 119) (L' := [(3, vI (1 : Int32)), (6, vI (I a12 (Int32.toNatClampNeg ((I a13 (Int32.toNatClampNeg x2)) + x4)))), (5, vI (I a12 (Int32.toNatClampNeg ((I a13 (Int32.toNatClampNeg x1)) + x4)))), (0, vR (some t)), (1, vI x1), (2, vI x2), (4, vI x4)]) dX12_areGridsAlike_119 rfl (by decide) rfl ?_
                refine r_iinc (pc := 120) (v := (x4 + (1 : Int32))) (L' := [(4, vI (x4 + (1 : Int32))), (3, vI (1 : Int32)), (6, vI (I a12 (Int32.toNatClampNeg ((I a13 (Int32.toNatClampNeg x2)) + x4)))), (5, vI (I a12 (Int32.toNatClampNeg ((I a13 (Int32.toNatClampNeg x1)) + x4)))), (0, vR (some t)), (1, vI x1), (2, vI x2)]) dX12_areGridsAlike_120 6 rfl (kc_inc_1 _) (by decide) rfl ?_
                refine r_goto (pc := 123) (tgt := 39) dX12_areGridsAlike_123 rfl ?_
                refine r_sub [4, 5, 6, 1, 0] rfl ?_
                exact ih _ _ _ _ h
def fX12_areGridsAlike (σ : Shp) (I : Nat → Nat → Int32) (J : Nat → Nat → Int64) (R : Nat → Nat → Option Nat) (t : Nat) (x1 : Int32) (x2 : Int32) : Option ((Int32)) :=
  if kdx σ t = 13 then
  ((R t 4) : Option Nat).bind fun a2 =>
  if kdx σ a2 = 22 then
  if ¬ (x1 < 0 ∨ lnx σ a2 ≤ Int32.toNatClampNeg x1) then
  if ¬ (x2 < 0 ∨ lnx σ a2 ≤ Int32.toNatClampNeg x2) then
  if (I a2 (Int32.toNatClampNeg x1)) = (I a2 (Int32.toNatClampNeg x2)) then
    ((R t 5) : Option Nat).bind fun a29 =>
    if kdx σ a29 = 22 then
    if ¬ (x1 < 0 ∨ lnx σ a29 ≤ Int32.toNatClampNeg x1) then
    if ¬ (x2 < 0 ∨ lnx σ a29 ≤ Int32.toNatClampNeg x2) then
    if (I a29 (Int32.toNatClampNeg x1)) = (I a29 (Int32.toNatClampNeg x2)) then
      fX12_areGridsAlike_l39 σ I J R t FUx x1 x2 (1 : Int32) (0 : Int32)
    else
      fX12_areGridsAlike_l39 σ I J R t FUx x1 x2 (0 : Int32) (0 : Int32)
    else none
    else none
    else none
  else
    fX12_areGridsAlike_l39 σ I J R t FUx x1 x2 (0 : Int32) (0 : Int32)
  else none
  else none
  else none
  else none
theorem kX12_areGridsAlike {G : Gx} {l : Launch} {σ : Shp} {I : Nat → Nat → Int32} {J : Nat → Nat → Int64} {D : Nat → Nat → UInt64} {R : Nat → Nat → Option Nat} {t : Nat} {x1 : Int32} {x2 : Int32} {r9 : Int32} (h : fX12_areGridsAlike σ I J R t x1 x2 = some r9) : Con G l yX12_areGridsAlike cX12_areGridsAlike 7 (some .boolean) 1 24 [vR (some t), vI x1, vI x2] (σ, I, J, D, R) (σ, I, J, D, R) (some (vI r9)) := by
  unfold fX12_areGridsAlike at h
  refine Con.mk (by decide +kernel) rfl (Nat.le_of_ble_eq_true rfl) ?_
  show WX12_areGridsAlike G l σ (σ, I, J, D, R) (some (vI r9)) (σ, I, J, D, R) 0 _ []
  refine r_aload_n (pc := 0) dX12_areGridsAlike_0 rfl 0 rfl ?_
  obtain ⟨g1, h⟩ := gd h
  obtain ⟨a2, ha2, h⟩ := ob h
  refine r_getS (pc := 1) dX12_areGridsAlike_1 fgX12_15 rfl g1 ha2 ?_
  refine r_iload_n (pc := 4) dX12_areGridsAlike_4 rfl 1 rfl ?_
  obtain ⟨g3, h⟩ := gd h
  obtain ⟨g4, h⟩ := gd h
  refine r_baload (pc := 5) dX12_areGridsAlike_5 g3 g4 ?_
  refine r_aload_n (pc := 6) dX12_areGridsAlike_6 rfl 0 rfl ?_
  refine r_getS (pc := 7) dX12_areGridsAlike_7 fgX12_15 rfl g1 ha2 ?_
  refine r_iload_n (pc := 10) dX12_areGridsAlike_10 rfl 2 rfl ?_
  obtain ⟨g5, h⟩ := gd h
  refine r_baload (pc := 11) dX12_areGridsAlike_11 g3 g5 ?_
  refine r_icmp_ne (pc := 12) (tgt := 34) dX12_areGridsAlike_12 rfl (fun c => ?_) (fun c => ?_)
  · have h := ie h c
    refine r_iconst (pc := 34) dX12_areGridsAlike_34 kc_iconst_0 ?_
    refine r_istore_n (pc := 35) (L' := [(3, vI (0 : Int32)), (0, vR (some t)), (1, vI x1), (2, vI x2)]) dX12_areGridsAlike_35 rfl (by decide) rfl ?_
    refine r_iconst (pc := 36) dX12_areGridsAlike_36 kc_iconst_0 ?_
    refine r_istore (pc := 37) (L' := [(4, vI (0 : Int32)), (3, vI (0 : Int32)), (0, vR (some t)), (1, vI x1), (2, vI x2)]) dX12_areGridsAlike_37 (by decide) rfl ?_
    refine r_sub [2, 3, 4, 1, 0] rfl ?_
    exact wX12_areGridsAlike_l39 _ _ _ _ _ h
  · have h := it h c
    refine r_aload_n (pc := 15) dX12_areGridsAlike_15 rfl 0 rfl ?_
    obtain ⟨a29, ha29, h⟩ := ob h
    refine r_getS (pc := 16) dX12_areGridsAlike_16 fgX12_19 rfl g1 ha29 ?_
    refine r_iload_n (pc := 19) dX12_areGridsAlike_19 rfl 1 rfl ?_
    obtain ⟨g30, h⟩ := gd h
    obtain ⟨g31, h⟩ := gd h
    refine r_baload (pc := 20) dX12_areGridsAlike_20 g30 g31 ?_
    refine r_aload_n (pc := 21) dX12_areGridsAlike_21 rfl 0 rfl ?_
    refine r_getS (pc := 22) dX12_areGridsAlike_22 fgX12_19 rfl g1 ha29 ?_
    refine r_iload_n (pc := 25) dX12_areGridsAlike_25 rfl 2 rfl ?_
    obtain ⟨g32, h⟩ := gd h
    refine r_baload (pc := 26) dX12_areGridsAlike_26 g30 g32 ?_
    refine r_icmp_ne (pc := 27) (tgt := 34) dX12_areGridsAlike_27 rfl (fun c => ?_) (fun c => ?_)
    · have h := ie h c
      refine r_iconst (pc := 34) dX12_areGridsAlike_34 kc_iconst_0 ?_
      refine r_istore_n (pc := 35) (L' := [(3, vI (0 : Int32)), (0, vR (some t)), (1, vI x1), (2, vI x2)]) dX12_areGridsAlike_35 rfl (by decide) rfl ?_
      refine r_iconst (pc := 36) dX12_areGridsAlike_36 kc_iconst_0 ?_
      refine r_istore (pc := 37) (L' := [(4, vI (0 : Int32)), (3, vI (0 : Int32)), (0, vR (some t)), (1, vI x1), (2, vI x2)]) dX12_areGridsAlike_37 (by decide) rfl ?_
      refine r_sub [2, 3, 4, 1, 0] rfl ?_
      exact wX12_areGridsAlike_l39 _ _ _ _ _ h
    · have h := it h c
      refine r_iconst (pc := 30) dX12_areGridsAlike_30 kc_iconst_1 ?_
      refine r_goto (pc := 31) (tgt := 35) dX12_areGridsAlike_31 rfl ?_
      refine r_istore_n (pc := 35) (L' := [(3, vI (1 : Int32)), (0, vR (some t)), (1, vI x1), (2, vI x2)]) dX12_areGridsAlike_35 rfl (by decide) rfl ?_
      refine r_iconst (pc := 36) dX12_areGridsAlike_36 kc_iconst_0 ?_
      refine r_istore (pc := 37) (L' := [(4, vI (0 : Int32)), (3, vI (1 : Int32)), (0, vR (some t)), (1, vI x1), (2, vI x2)]) dX12_areGridsAlike_37 (by decide) rfl ?_
      refine r_sub [2, 3, 4, 1, 0] rfl ?_
      exact wX12_areGridsAlike_l39 _ _ _ _ _ h
abbrev WX12_arePlacesAlike (G : Gx) (l : Launch) (σ0 : Shp) (X1 : Stt) (rv : Option SV) : Stt → Nat → List (Nat × SV) → List SV → Prop := Wm G l yX12_arePlacesAlike cX12_arePlacesAlike 7 (some .boolean) (fun _ => True) (rmx 2 50 σ0 X1.1) σ0 (Qmx G σ0 X1 rv)
def fX12_arePlacesAlike_l57  (σ : Shp) (I : Nat → Nat → Int32) (J : Nat → Nat → Int64) (R : Nat → Nat → Option Nat) (t : Nat) : Nat → (Int32) → (Int32) → (Int32) → (Int32) → Option ((Int32))
  | 0, _, _, _, _ => none
  | n + 1, x1, x2, x3, x4 =>
    if kdx σ t = 13 then
    ((R t 5) : Option Nat).bind fun a7 =>
    if kdx σ a7 = 22 then
    if ¬ (x1 < 0 ∨ lnx σ a7 ≤ Int32.toNatClampNeg x1) then
    if (I a7 (Int32.toNatClampNeg x1)) ≤ x4 then
      if x3 = 0 ∨ x3 = 1 then
      some x3
      else none
    else
      if x3 = 0 then
        if x3 = 0 ∨ x3 = 1 then
        some x3
        else none
      else
        ((R t 10) : Option Nat).bind fun a12 =>
        ((R t 6) : Option Nat).bind fun a13 =>
        if kdx σ a13 = 20 then
        if ¬ (x1 < 0 ∨ lnx σ a13 ≤ Int32.toNatClampNeg x1) then
        if kdx σ a12 = 23 then
        if ¬ (((I a13 (Int32.toNatClampNeg x1)) + x4) < 0 ∨ lnx σ a12 ≤ Int32.toNatClampNeg ((I a13 (Int32.toNatClampNeg x1)) + x4)) then
        let v18 := (I a12 (Int32.toNatClampNeg ((I a13 (Int32.toNatClampNeg x1)) + x4)))
        if ¬ (x2 < 0 ∨ lnx σ a13 ≤ Int32.toNatClampNeg x2) then
        if ¬ (((I a13 (Int32.toNatClampNeg x2)) + x4) < 0 ∨ lnx σ a12 ≤ Int32.toNatClampNeg ((I a13 (Int32.toNatClampNeg x2)) + x4)) then
        let v21 := (I a12 (Int32.toNatClampNeg ((I a13 (Int32.toNatClampNeg x2)) + x4)))
        if v18 = v21 then
          let v22 := x4 + (1 : Int32)
          fX12_arePlacesAlike_l57 σ I J R t n x1 x2 (1 : Int32) v22
        else
          ((R t 4) : Option Nat).bind fun a23 =>
          if kdx σ a23 = 22 then
          if ¬ (x1 < 0 ∨ lnx σ a23 ≤ Int32.toNatClampNeg x1) then
          if (I a23 (Int32.toNatClampNeg x1)) = (11 : Int32) then
            if v18 = 0 then
              let v27 := x4 + (1 : Int32)
              fX12_arePlacesAlike_l57 σ I J R t n x1 x2 (0 : Int32) v27
            else
              if v21 = 0 then
                let v28 := x4 + (1 : Int32)
                fX12_arePlacesAlike_l57 σ I J R t n x1 x2 (0 : Int32) v28
              else
                (fX12_areGridsAlike σ I J R t v18 v21).bind fun r29 =>
                if r29 = 0 then
                  let v31 := x4 + (1 : Int32)
                  fX12_arePlacesAlike_l57 σ I J R t n x1 x2 (0 : Int32) v31
                else
                  let v32 := x4 + (1 : Int32)
                  fX12_arePlacesAlike_l57 σ I J R t n x1 x2 (1 : Int32) v32
          else
            let v26 := x4 + (1 : Int32)
            fX12_arePlacesAlike_l57 σ I J R t n x1 x2 (0 : Int32) v26
          else none
          else none
        else none
        else none
        else none
        else none
        else none
        else none
    else none
    else none
    else none
theorem wX12_arePlacesAlike_l57 {G : Gx} {l : Launch} {σ : Shp} {I : Nat → Nat → Int32} {J : Nat → Nat → Int64} {D : Nat → Nat → UInt64} {R : Nat → Nat → Option Nat} {t : Nat} {r9 : Int32} : ∀ (n : Nat) (x1 : Int32) (x2 : Int32) (x3 : Int32) (x4 : Int32), fX12_arePlacesAlike_l57 σ I J R t n x1 x2 x3 x4 = some r9 → WX12_arePlacesAlike G l σ (σ, I, J, D, R) (some (vI r9)) (σ, I, J, D, R) 57 [(0, vR (some t)), (1, vI x1), (2, vI x2), (3, vI x3), (4, vI x4)] [] := by
  intro n
  induction n with
  | zero =>
    intro x1 x2 x3 x4 h
    have h : none = some _ := h
    cases h
  | succ n ih =>
    intro x1 x2 x3 x4 h
    rw [fX12_arePlacesAlike_l57] at h
    refine r_iload (pc := 57) dX12_arePlacesAlike_57 4 rfl ?_
    refine r_aload_n (pc := 59) dX12_arePlacesAlike_59 rfl 0 rfl ?_
    obtain ⟨g6, h⟩ := gd h
    obtain ⟨a7, ha7, h⟩ := ob h
    refine r_getS (pc := 60) dX12_arePlacesAlike_60 fgX12_19 rfl g6 ha7 ?_
    refine r_iload_n (pc := 63) dX12_arePlacesAlike_63 rfl 1 rfl ?_
    obtain ⟨g8, h⟩ := gd h
    obtain ⟨g9, h⟩ := gd h
    refine r_baload (pc := 64) dX12_arePlacesAlike_64 g8 g9 ?_
    refine r_icmp_ge (pc := 65) (tgt := 155) dX12_arePlacesAlike_65 rfl (fun c => ?_) (fun c => ?_)
    · have h := it h c
      refine r_iload_n (pc := 155) dX12_arePlacesAlike_155 rfl 3 rfl ?_
      obtain ⟨g10, h⟩ := gd h
      cases h
      exact r_zret dX12_arePlacesAlike_156 g10
    · have h := ie h c
      refine r_iload_n (pc := 68) dX12_arePlacesAlike_68 rfl 3 rfl ?_
      refine r_if_eq (pc := 69) (tgt := 155) dX12_arePlacesAlike_69 rfl (fun c => ?_) (fun c => ?_)
      · have h := it h c
        refine r_iload_n (pc := 155) dX12_arePlacesAlike_155 rfl 3 rfl ?_
        obtain ⟨g11, h⟩ := gd h
        cases h
        exact r_zret dX12_arePlacesAlike_156 g11
      · have h := ie h c
        refine r_aload_n (pc := 72) dX12_arePlacesAlike_72 rfl 0 rfl ?_
        obtain ⟨a12, ha12, h⟩ := ob h
        refine r_getS (pc := 73) dX12_arePlacesAlike_73 fgX12_31 rfl g6 ha12 ?_
        refine r_aload_n (pc := 76) dX12_arePlacesAlike_76 rfl 0 rfl ?_
        obtain ⟨a13, ha13, h⟩ := ob h
        refine r_getS (pc := 77) dX12_arePlacesAlike_77 fgX12_22 rfl g6 ha13 ?_
        refine r_iload_n (pc := 80) dX12_arePlacesAlike_80 rfl 1 rfl ?_
        obtain ⟨g14, h⟩ := gd h
        obtain ⟨g15, h⟩ := gd h
        refine r_iaload (pc := 81) dX12_arePlacesAlike_81 g14 g15 ?_
        refine r_iload (pc := 82) dX12_arePlacesAlike_82 4 rfl ?_
        refine r_iadd (pc := 84) dX12_arePlacesAlike_84 ?_
        obtain ⟨g16, h⟩ := gd h
        obtain ⟨g17, h⟩ := gd h
        refine r_saload (pc := 85) dX12_arePlacesAlike_85 g16 g17 ?_
        refine r_istore (pc := 86) (L' := [(5, vI (I a12 (Int32.toNatClampNeg ((I a13 (Int32.toNatClampNeg x1)) + x4)))), (0, vR (some t)), (1, vI x1), (2, vI x2), (3, vI x3), (4, vI x4)]) dX12_arePlacesAlike_86 (by decide) rfl ?_
        refine r_aload_n (pc := 88) dX12_arePlacesAlike_88 rfl 1 rfl ?_
        refine r_getS (pc := 89) dX12_arePlacesAlike_89 fgX12_31 rfl g6 ha12 ?_
        refine r_aload_n (pc := 92) dX12_arePlacesAlike_92 rfl 1 rfl ?_
        refine r_getS (pc := 93) dX12_arePlacesAlike_93 fgX12_22 rfl g6 ha13 ?_
        refine r_iload_n (pc := 96) dX12_arePlacesAlike_96 rfl 3 rfl ?_
        obtain ⟨g19, h⟩ := gd h
        refine r_iaload (pc := 97) dX12_arePlacesAlike_97 g14 g19 ?_
        refine r_iload (pc := 98) dX12_arePlacesAlike_98 5 rfl ?_
        refine r_iadd (pc := 100) dX12_arePlacesAlike_100 ?_
        obtain ⟨g20, h⟩ := gd h
        refine r_saload (pc := 101) dX12_arePlacesAlike_101 g16 g20 ?_
        refine r_istore (pc := 102) (L' := [(6, vI (I a12 (Int32.toNatClampNeg ((I a13 (Int32.toNatClampNeg x2)) + x4)))), (5, vI (I a12 (Int32.toNatClampNeg ((I a13 (Int32.toNatClampNeg x1)) + x4)))), (0, vR (some t)), (1, vI x1), (2, vI x2), (3, vI x3), (4, vI x4)]) dX12_arePlacesAlike_102 (by decide) rfl ?_
        refine r_iload (pc := 104) dX12_arePlacesAlike_104 1 rfl ?_
        refine r_iload (pc := 106) dX12_arePlacesAlike_106 0 rfl ?_
        refine r_icmp_eq (pc := 108) (tgt := 143) dX12_arePlacesAlike_108 rfl (fun c => ?_) (fun c => ?_)
        · have h := it h c
          refine r_iconst (pc := 143) dX12_arePlacesAlike_143 kc_iconst_1 ?_
          refine r_goto (pc := 144) (tgt := 148) dX12_arePlacesAlike_144 rfl ?_
          refine r_istore_n (pc := 148) (L' := [(3, vI (1 : Int32)), (6, vI (I a12 (Int32.toNatClampNeg ((I a13 (Int32.toNatClampNeg x2)) + x4)))), (5, vI (I a12 (Int32.toNatClampNeg ((I a13 (Int32.toNatClampNeg x1)) + x4)))), (0, vR (some t)), (1, vI x1), (2, vI x2), (4, vI x4)]) dX12_arePlacesAlike_148 rfl (by decide) rfl ?_
          refine r_iinc (pc := 149) (v := (x4 + (1 : Int32))) (L' := [(4, vI (x4 + (1 : Int32))), (3, vI (1 : Int32)), (6, vI (I a12 (Int32.toNatClampNeg ((I a13 (Int32.toNatClampNeg x2)) + x4)))), (5, vI (I a12 (Int32.toNatClampNeg ((I a13 (Int32.toNatClampNeg x1)) + x4)))), (0, vR (some t)), (1, vI x1), (2, vI x2)]) dX12_arePlacesAlike_149 6 rfl (kc_inc_1 _) (by decide) rfl ?_
          refine r_goto (pc := 152) (tgt := 57) dX12_arePlacesAlike_152 rfl ?_
          refine r_sub [4, 5, 6, 1, 0] rfl ?_
          exact ih _ _ _ _ h
        · have h := ie h c
          refine r_aload_n (pc := 111) dX12_arePlacesAlike_111 rfl 2 rfl ?_
          obtain ⟨a23, ha23, h⟩ := ob h
          refine r_getS (pc := 112) dX12_arePlacesAlike_112 fgX12_15 rfl g6 ha23 ?_
          refine r_iload_n (pc := 115) dX12_arePlacesAlike_115 rfl 3 rfl ?_
          obtain ⟨g24, h⟩ := gd h
          obtain ⟨g25, h⟩ := gd h
          refine r_baload (pc := 116) dX12_arePlacesAlike_116 g24 g25 ?_
          refine r_bipush (pc := 117) dX12_arePlacesAlike_117 kc_bipush_11 ?_
          refine r_icmp_ne (pc := 119) (tgt := 147) dX12_arePlacesAlike_119 rfl (fun c => ?_) (fun c => ?_)
          · have h := ie h c
            refine r_iconst (pc := 147) dX12_arePlacesAlike_147 kc_iconst_0 ?_
            refine r_istore_n (pc := 148) (L' := [(3, vI (0 : Int32)), (6, vI (I a12 (Int32.toNatClampNeg ((I a13 (Int32.toNatClampNeg x2)) + x4)))), (5, vI (I a12 (Int32.toNatClampNeg ((I a13 (Int32.toNatClampNeg x1)) + x4)))), (0, vR (some t)), (1, vI x1), (2, vI x2), (4, vI x4)]) dX12_arePlacesAlike_148 rfl (by decide) rfl ?_
            refine r_iinc (pc := 149) (v := (x4 + (1 : Int32))) (L' := [(4, vI (x4 + (1 : Int32))), (3, vI (0 : Int32)), (6, vI (I a12 (Int32.toNatClampNeg ((I a13 (Int32.toNatClampNeg x2)) + x4)))), (5, vI (I a12 (Int32.toNatClampNeg ((I a13 (Int32.toNatClampNeg x1)) + x4)))), (0, vR (some t)), (1, vI x1), (2, vI x2)]) dX12_arePlacesAlike_149 6 rfl (kc_inc_1 _) (by decide) rfl ?_
            refine r_goto (pc := 152) (tgt := 57) dX12_arePlacesAlike_152 rfl ?_
            refine r_sub [4, 5, 6, 1, 0] rfl ?_
            exact ih _ _ _ _ h
          · have h := it h c
            refine r_iload (pc := 122) dX12_arePlacesAlike_122 1 rfl ?_
            refine r_if_eq (pc := 124) (tgt := 147) dX12_arePlacesAlike_124 rfl (fun c => ?_) (fun c => ?_)
            · have h := it h c
              refine r_iconst (pc := 147) dX12_arePlacesAlike_147 kc_iconst_0 ?_
              refine r_istore_n (pc := 148) (L' := [(3, vI (0 : Int32)), (6, vI (I a12 (Int32.toNatClampNeg ((I a13 (Int32.toNatClampNeg x2)) + x4)))), (5, vI (I a12 (Int32.toNatClampNeg ((I a13 (Int32.toNatClampNeg x1)) + x4)))), (0, vR (some t)), (1, vI x1), (2, vI x2), (4, vI x4)]) dX12_arePlacesAlike_148 rfl (by decide) rfl ?_
              refine r_iinc (pc := 149) (v := (x4 + (1 : Int32))) (L' := [(4, vI (x4 + (1 : Int32))), (3, vI (0 : Int32)), (6, vI (I a12 (Int32.toNatClampNeg ((I a13 (Int32.toNatClampNeg x2)) + x4)))), (5, vI (I a12 (Int32.toNatClampNeg ((I a13 (Int32.toNatClampNeg x1)) + x4)))), (0, vR (some t)), (1, vI x1), (2, vI x2)]) dX12_arePlacesAlike_149 6 rfl (kc_inc_1 _) (by decide) rfl ?_
              refine r_goto (pc := 152) (tgt := 57) dX12_arePlacesAlike_152 rfl ?_
              refine r_sub [4, 5, 6, 1, 0] rfl ?_
              exact ih _ _ _ _ h
            · have h := ie h c
              refine r_iload (pc := 127) dX12_arePlacesAlike_127 0 rfl ?_
              refine r_if_eq (pc := 129) (tgt := 147) dX12_arePlacesAlike_129 rfl (fun c => ?_) (fun c => ?_)
              · have h := it h c
                refine r_iconst (pc := 147) dX12_arePlacesAlike_147 kc_iconst_0 ?_
                refine r_istore_n (pc := 148) (L' := [(3, vI (0 : Int32)), (6, vI (I a12 (Int32.toNatClampNeg ((I a13 (Int32.toNatClampNeg x2)) + x4)))), (5, vI (I a12 (Int32.toNatClampNeg ((I a13 (Int32.toNatClampNeg x1)) + x4)))), (0, vR (some t)), (1, vI x1), (2, vI x2), (4, vI x4)]) dX12_arePlacesAlike_148 rfl (by decide) rfl ?_
                refine r_iinc (pc := 149) (v := (x4 + (1 : Int32))) (L' := [(4, vI (x4 + (1 : Int32))), (3, vI (0 : Int32)), (6, vI (I a12 (Int32.toNatClampNeg ((I a13 (Int32.toNatClampNeg x2)) + x4)))), (5, vI (I a12 (Int32.toNatClampNeg ((I a13 (Int32.toNatClampNeg x1)) + x4)))), (0, vR (some t)), (1, vI x1), (2, vI x2)]) dX12_arePlacesAlike_149 6 rfl (kc_inc_1 _) (by decide) rfl ?_
                refine r_goto (pc := 152) (tgt := 57) dX12_arePlacesAlike_152 rfl ?_
                refine r_sub [4, 5, 6, 1, 0] rfl ?_
                exact ih _ _ _ _ h
              · have h := ie h c
                refine r_aload_n (pc := 132) dX12_arePlacesAlike_132 rfl 2 rfl ?_
                refine r_iload (pc := 133) dX12_arePlacesAlike_133 1 rfl ?_
                refine r_iload (pc := 135) dX12_arePlacesAlike_135 0 rfl ?_
                obtain ⟨r29, hc30, h⟩ := ob h
                refine r_callV1 (pc := 137) (av := [vI (I a12 (Int32.toNatClampNeg ((I a13 (Int32.toNatClampNeg x1)) + x4))), vI (I a12 (Int32.toNatClampNeg ((I a13 (Int32.toNatClampNeg x2)) + x4)))]) (S := []) dX12_arePlacesAlike_137 (kX12_areGridsAlike hc30) g6 rfl mkX12_426 mwX12_areGridsAlike rfl ⟨Nat.le_of_ble_eq_true rfl, Nat.le_of_ble_eq_true rfl⟩ (Nat.le_of_ble_eq_true rfl) ⟨Nat.le_refl _, Nat.le_refl _⟩ (fun b => b) ?_
                refine r_if_eq (pc := 140) (tgt := 147) dX12_arePlacesAlike_140 rfl (fun c => ?_) (fun c => ?_)
                · have h := it h c
                  refine r_iconst (pc := 147) dX12_arePlacesAlike_147 kc_iconst_0 ?_
                  refine r_istore_n (pc := 148) (L' := [(3, vI (0 : Int32)), (6, vI (I a12 (Int32.toNatClampNeg ((I a13 (Int32.toNatClampNeg x2)) + x4)))), (5, vI (I a12 (Int32.toNatClampNeg ((I a13 (Int32.toNatClampNeg x1)) + x4)))), (0, vR (some t)), (1, vI x1), (2, vI x2), (4, vI x4)]) dX12_arePlacesAlike_148 rfl (by decide) rfl ?_
                  refine r_iinc (pc := 149) (v := (x4 + (1 : Int32))) (L' := [(4, vI (x4 + (1 : Int32))), (3, vI (0 : Int32)), (6, vI (I a12 (Int32.toNatClampNeg ((I a13 (Int32.toNatClampNeg x2)) + x4)))), (5, vI (I a12 (Int32.toNatClampNeg ((I a13 (Int32.toNatClampNeg x1)) + x4)))), (0, vR (some t)), (1, vI x1), (2, vI x2)]) dX12_arePlacesAlike_149 6 rfl (kc_inc_1 _) (by decide) rfl ?_
                  refine r_goto (pc := 152) (tgt := 57) dX12_arePlacesAlike_152 rfl ?_
                  refine r_sub [4, 5, 6, 1, 0] rfl ?_
                  exact ih _ _ _ _ h
                · have h := ie h c
                  refine r_iconst (pc := 143) dX12_arePlacesAlike_143 kc_iconst_1 ?_
                  refine r_goto (pc := 144) (tgt := 148) dX12_arePlacesAlike_144 rfl ?_
                  refine r_istore_n (pc := 148) (L' := [(3, vI (1 : Int32)), (6, vI (I a12 (Int32.toNatClampNeg ((I a13 (Int32.toNatClampNeg x2)) + x4)))), (5, vI (I a12 (Int32.toNatClampNeg ((I a13 (Int32.toNatClampNeg x1)) + x4)))), (0, vR (some t)), (1, vI x1), (2, vI x2), (4, vI x4)]) dX12_arePlacesAlike_148 rfl (by decide) rfl ?_
                  refine r_iinc (pc := 149) (v := (x4 + (1 : Int32))) (L' := [(4, vI (x4 + (1 : Int32))), (3, vI (1 : Int32)), (6, vI (I a12 (Int32.toNatClampNeg ((I a13 (Int32.toNatClampNeg x2)) + x4)))), (5, vI (I a12 (Int32.toNatClampNeg ((I a13 (Int32.toNatClampNeg x1)) + x4)))), (0, vR (some t)), (1, vI x1), (2, vI x2)]) dX12_arePlacesAlike_149 6 rfl (kc_inc_1 _) (by decide) rfl ?_
                  refine r_goto (pc := 152) (tgt := 57) dX12_arePlacesAlike_152 rfl ?_
                  refine r_sub [4, 5, 6, 1, 0] rfl ?_
                  exact ih _ _ _ _ h
def fX12_arePlacesAlike (σ : Shp) (I : Nat → Nat → Int32) (J : Nat → Nat → Int64) (R : Nat → Nat → Option Nat) (t : Nat) (x1 : Int32) (x2 : Int32) : Option ((Int32)) :=
  if kdx σ t = 13 then
  ((R t 4) : Option Nat).bind fun a2 =>
  if kdx σ a2 = 22 then
  if ¬ (x1 < 0 ∨ lnx σ a2 ≤ Int32.toNatClampNeg x1) then
  if (11 : Int32) ≤ (I a2 (Int32.toNatClampNeg x1)) then
    if ¬ (x2 < 0 ∨ lnx σ a2 ≤ Int32.toNatClampNeg x2) then
    if (I a2 (Int32.toNatClampNeg x1)) = (I a2 (Int32.toNatClampNeg x2)) then
      ((R t 5) : Option Nat).bind fun a33 =>
      if kdx σ a33 = 22 then
      if ¬ (x1 < 0 ∨ lnx σ a33 ≤ Int32.toNatClampNeg x1) then
      if ¬ (x2 < 0 ∨ lnx σ a33 ≤ Int32.toNatClampNeg x2) then
      if (I a33 (Int32.toNatClampNeg x1)) = (I a33 (Int32.toNatClampNeg x2)) then
        fX12_arePlacesAlike_l57 σ I J R t FUx x1 x2 (1 : Int32) (0 : Int32)
      else
        fX12_arePlacesAlike_l57 σ I J R t FUx x1 x2 (0 : Int32) (0 : Int32)
      else none
      else none
      else none
    else
      fX12_arePlacesAlike_l57 σ I J R t FUx x1 x2 (0 : Int32) (0 : Int32)
    else none
  else
    (fX12_areGridsAlike σ I J R t x1 x2).bind fun r37 =>
    if r37 = 0 ∨ r37 = 1 then
    some r37
    else none
  else none
  else none
  else none
theorem kX12_arePlacesAlike {G : Gx} {l : Launch} {σ : Shp} {I : Nat → Nat → Int32} {J : Nat → Nat → Int64} {D : Nat → Nat → UInt64} {R : Nat → Nat → Option Nat} {t : Nat} {x1 : Int32} {x2 : Int32} {r9 : Int32} (h : fX12_arePlacesAlike σ I J R t x1 x2 = some r9) : Con G l yX12_arePlacesAlike cX12_arePlacesAlike 7 (some .boolean) 2 50 [vR (some t), vI x1, vI x2] (σ, I, J, D, R) (σ, I, J, D, R) (some (vI r9)) := by
  unfold fX12_arePlacesAlike at h
  refine Con.mk (by decide +kernel) rfl (Nat.le_of_ble_eq_true rfl) ?_
  show WX12_arePlacesAlike G l σ (σ, I, J, D, R) (some (vI r9)) (σ, I, J, D, R) 0 _ []
  refine r_aload_n (pc := 0) dX12_arePlacesAlike_0 rfl 0 rfl ?_
  obtain ⟨g1, h⟩ := gd h
  obtain ⟨a2, ha2, h⟩ := ob h
  refine r_getS (pc := 1) dX12_arePlacesAlike_1 fgX12_15 rfl g1 ha2 ?_
  refine r_iload_n (pc := 4) dX12_arePlacesAlike_4 rfl 1 rfl ?_
  obtain ⟨g3, h⟩ := gd h
  obtain ⟨g4, h⟩ := gd h
  refine r_baload (pc := 5) dX12_arePlacesAlike_5 g3 g4 ?_
  refine r_bipush (pc := 6) dX12_arePlacesAlike_6 kc_bipush_11 ?_
  refine r_icmp_ge (pc := 8) (tgt := 18) dX12_arePlacesAlike_8 rfl (fun c => ?_) (fun c => ?_)
  · have h := it h c
    refine r_aload_n (pc := 18) dX12_arePlacesAlike_18 rfl 0 rfl ?_
    refine r_getS (pc := 19) dX12_arePlacesAlike_19 fgX12_15 rfl g1 ha2 ?_
    refine r_iload_n (pc := 22) dX12_arePlacesAlike_22 rfl 1 rfl ?_
    refine r_baload (pc := 23) dX12_arePlacesAlike_23 g3 g4 ?_
    refine r_aload_n (pc := 24) dX12_arePlacesAlike_24 rfl 0 rfl ?_
    refine r_getS (pc := 25) dX12_arePlacesAlike_25 fgX12_15 rfl g1 ha2 ?_
    refine r_iload_n (pc := 28) dX12_arePlacesAlike_28 rfl 2 rfl ?_
    obtain ⟨g5, h⟩ := gd h
    refine r_baload (pc := 29) dX12_arePlacesAlike_29 g3 g5 ?_
    refine r_icmp_ne (pc := 30) (tgt := 52) dX12_arePlacesAlike_30 rfl (fun c => ?_) (fun c => ?_)
    · have h := ie h c
      refine r_iconst (pc := 52) dX12_arePlacesAlike_52 kc_iconst_0 ?_
      refine r_istore_n (pc := 53) (L' := [(3, vI (0 : Int32)), (0, vR (some t)), (1, vI x1), (2, vI x2)]) dX12_arePlacesAlike_53 rfl (by decide) rfl ?_
      refine r_iconst (pc := 54) dX12_arePlacesAlike_54 kc_iconst_0 ?_
      refine r_istore (pc := 55) (L' := [(4, vI (0 : Int32)), (3, vI (0 : Int32)), (0, vR (some t)), (1, vI x1), (2, vI x2)]) dX12_arePlacesAlike_55 (by decide) rfl ?_
      refine r_sub [2, 3, 4, 1, 0] rfl ?_
      exact wX12_arePlacesAlike_l57 _ _ _ _ _ h
    · have h := it h c
      refine r_aload_n (pc := 33) dX12_arePlacesAlike_33 rfl 0 rfl ?_
      obtain ⟨a33, ha33, h⟩ := ob h
      refine r_getS (pc := 34) dX12_arePlacesAlike_34 fgX12_19 rfl g1 ha33 ?_
      refine r_iload_n (pc := 37) dX12_arePlacesAlike_37 rfl 1 rfl ?_
      obtain ⟨g34, h⟩ := gd h
      obtain ⟨g35, h⟩ := gd h
      refine r_baload (pc := 38) dX12_arePlacesAlike_38 g34 g35 ?_
      refine r_aload_n (pc := 39) dX12_arePlacesAlike_39 rfl 0 rfl ?_
      refine r_getS (pc := 40) dX12_arePlacesAlike_40 fgX12_19 rfl g1 ha33 ?_
      refine r_iload_n (pc := 43) dX12_arePlacesAlike_43 rfl 2 rfl ?_
      obtain ⟨g36, h⟩ := gd h
      refine r_baload (pc := 44) dX12_arePlacesAlike_44 g34 g36 ?_
      refine r_icmp_ne (pc := 45) (tgt := 52) dX12_arePlacesAlike_45 rfl (fun c => ?_) (fun c => ?_)
      · have h := ie h c
        refine r_iconst (pc := 52) dX12_arePlacesAlike_52 kc_iconst_0 ?_
        refine r_istore_n (pc := 53) (L' := [(3, vI (0 : Int32)), (0, vR (some t)), (1, vI x1), (2, vI x2)]) dX12_arePlacesAlike_53 rfl (by decide) rfl ?_
        refine r_iconst (pc := 54) dX12_arePlacesAlike_54 kc_iconst_0 ?_
        refine r_istore (pc := 55) (L' := [(4, vI (0 : Int32)), (3, vI (0 : Int32)), (0, vR (some t)), (1, vI x1), (2, vI x2)]) dX12_arePlacesAlike_55 (by decide) rfl ?_
        refine r_sub [2, 3, 4, 1, 0] rfl ?_
        exact wX12_arePlacesAlike_l57 _ _ _ _ _ h
      · have h := it h c
        refine r_iconst (pc := 48) dX12_arePlacesAlike_48 kc_iconst_1 ?_
        refine r_goto (pc := 49) (tgt := 53) dX12_arePlacesAlike_49 rfl ?_
        refine r_istore_n (pc := 53) (L' := [(3, vI (1 : Int32)), (0, vR (some t)), (1, vI x1), (2, vI x2)]) dX12_arePlacesAlike_53 rfl (by decide) rfl ?_
        refine r_iconst (pc := 54) dX12_arePlacesAlike_54 kc_iconst_0 ?_
        refine r_istore (pc := 55) (L' := [(4, vI (0 : Int32)), (3, vI (1 : Int32)), (0, vR (some t)), (1, vI x1), (2, vI x2)]) dX12_arePlacesAlike_55 (by decide) rfl ?_
        refine r_sub [2, 3, 4, 1, 0] rfl ?_
        exact wX12_arePlacesAlike_l57 _ _ _ _ _ h
  · have h := ie h c
    refine r_aload_n (pc := 11) dX12_arePlacesAlike_11 rfl 0 rfl ?_
    refine r_iload_n (pc := 12) dX12_arePlacesAlike_12 rfl 1 rfl ?_
    refine r_iload_n (pc := 13) dX12_arePlacesAlike_13 rfl 2 rfl ?_
    obtain ⟨r37, hc38, h⟩ := ob h
    refine r_callV1 (pc := 14) (av := [vI x1, vI x2]) (S := []) dX12_arePlacesAlike_14 (kX12_areGridsAlike hc38) g1 rfl mkX12_426 mwX12_areGridsAlike rfl ⟨Nat.le_of_ble_eq_true rfl, Nat.le_of_ble_eq_true rfl⟩ (Nat.le_of_ble_eq_true rfl) ⟨Nat.le_refl _, Nat.le_refl _⟩ (fun b => b) ?_
    obtain ⟨g39, h⟩ := gd h
    cases h
    exact r_zret dX12_arePlacesAlike_17 g39
abbrev WX12_areCardsAlike (G : Gx) (l : Launch) (σ0 : Shp) (X1 : Stt) (rv : Option SV) : Stt → Nat → List (Nat × SV) → List SV → Prop := Wm G l yX12_areCardsAlike cX12_areCardsAlike 5 (some .boolean) (fun _ => True) (rmx 0 0 σ0 X1.1) σ0 (Qmx G σ0 X1 rv)
def fX12_areCardsAlike_l39  (σ : Shp) (I : Nat → Nat → Int32) (J : Nat → Nat → Int64) (R : Nat → Nat → Option Nat) (t : Nat) : Nat → (Int32) → (Int32) → (Int32) → (Int32) → Option ((Int32))
  | 0, _, _, _, _ => none
  | n + 1, x1, x2, x3, x4 =>
    if (8 : Int32) ≤ x4 then
      if x3 = 0 ∨ x3 = 1 then
      some x3
      else none
    else
      if x3 = 0 then
        if x3 = 0 ∨ x3 = 1 then
        some x3
        else none
      else
        if kdx σ t = 13 then
        ((R t 8) : Option Nat).bind fun a9 =>
        ((R t 6) : Option Nat).bind fun a10 =>
        if kdx σ a10 = 20 then
        if ¬ (x1 < 0 ∨ lnx σ a10 ≤ Int32.toNatClampNeg x1) then
        if kdx σ a9 = 21 then
        if ¬ (((I a10 (Int32.toNatClampNeg x1)) + x4) < 0 ∨ lnx σ a9 ≤ Int32.toNatClampNeg ((I a10 (Int32.toNatClampNeg x1)) + x4)) then
        if ¬ (x2 < 0 ∨ lnx σ a10 ≤ Int32.toNatClampNeg x2) then
        if ¬ (((I a10 (Int32.toNatClampNeg x2)) + x4) < 0 ∨ lnx σ a9 ≤ Int32.toNatClampNeg ((I a10 (Int32.toNatClampNeg x2)) + x4)) then
        if (J a9 (Int32.toNatClampNeg ((I a10 (Int32.toNatClampNeg x1)) + x4))) = (J a9 (Int32.toNatClampNeg ((I a10 (Int32.toNatClampNeg x2)) + x4))) then
          let v18 := x4 + (1 : Int32)
          fX12_areCardsAlike_l39 σ I J R t n x1 x2 (1 : Int32) v18
        else
          let v17 := x4 + (1 : Int32)
          fX12_areCardsAlike_l39 σ I J R t n x1 x2 (0 : Int32) v17
        else none
        else none
        else none
        else none
        else none
        else none
        else none
theorem wX12_areCardsAlike_l39 {G : Gx} {l : Launch} {σ : Shp} {I : Nat → Nat → Int32} {J : Nat → Nat → Int64} {D : Nat → Nat → UInt64} {R : Nat → Nat → Option Nat} {t : Nat} {r9 : Int32} : ∀ (n : Nat) (x1 : Int32) (x2 : Int32) (x3 : Int32) (x4 : Int32), fX12_areCardsAlike_l39 σ I J R t n x1 x2 x3 x4 = some r9 → WX12_areCardsAlike G l σ (σ, I, J, D, R) (some (vI r9)) (σ, I, J, D, R) 39 [(0, vR (some t)), (1, vI x1), (2, vI x2), (3, vI x3), (4, vI x4)] [] := by
  intro n
  induction n with
  | zero =>
    intro x1 x2 x3 x4 h
    have h : none = some _ := h
    cases h
  | succ n ih =>
    intro x1 x2 x3 x4 h
    rw [fX12_areCardsAlike_l39] at h
    refine r_iload (pc := 39) dX12_areCardsAlike_39 4 rfl ?_
    refine r_bipush (pc := 41) dX12_areCardsAlike_41 kc_bipush_8 ?_
    refine r_icmp_ge (pc := 43) (tgt := 94) dX12_areCardsAlike_43 rfl (fun c => ?_) (fun c => ?_)
    · have h := it h c
      refine r_iload_n (pc := 94) dX12_areCardsAlike_94 rfl 3 rfl ?_
      obtain ⟨g6, h⟩ := gd h
      cases h
      exact r_zret dX12_areCardsAlike_95 g6
    · have h := ie h c
      refine r_iload_n (pc := 46) dX12_areCardsAlike_46 rfl 3 rfl ?_
      refine r_if_eq (pc := 47) (tgt := 94) dX12_areCardsAlike_47 rfl (fun c => ?_) (fun c => ?_)
      · have h := it h c
        refine r_iload_n (pc := 94) dX12_areCardsAlike_94 rfl 3 rfl ?_
        obtain ⟨g7, h⟩ := gd h
        cases h
        exact r_zret dX12_areCardsAlike_95 g7
      · have h := ie h c
        refine r_aload_n (pc := 50) dX12_areCardsAlike_50 rfl 0 rfl ?_
        obtain ⟨g8, h⟩ := gd h
        obtain ⟨a9, ha9, h⟩ := ob h
        refine r_getS (pc := 51) dX12_areCardsAlike_51 fgX12_26 rfl g8 ha9 ?_
        refine r_aload_n (pc := 54) dX12_areCardsAlike_54 rfl 0 rfl ?_
        obtain ⟨a10, ha10, h⟩ := ob h
        refine r_getS (pc := 55) dX12_areCardsAlike_55 fgX12_22 rfl g8 ha10 ?_
        refine r_iload_n (pc := 58) dX12_areCardsAlike_58 rfl 1 rfl ?_
        obtain ⟨g11, h⟩ := gd h
        obtain ⟨g12, h⟩ := gd h
        refine r_iaload (pc := 59) dX12_areCardsAlike_59 g11 g12 ?_
        refine r_iload (pc := 60) dX12_areCardsAlike_60 4 rfl ?_
        refine r_iadd (pc := 62) dX12_areCardsAlike_62 ?_
        obtain ⟨g13, h⟩ := gd h
        obtain ⟨g14, h⟩ := gd h
        refine r_laload (pc := 63) dX12_areCardsAlike_63 g13 g14 ?_
        refine r_aload_n (pc := 64) dX12_areCardsAlike_64 rfl 0 rfl ?_
        refine r_getS (pc := 65) dX12_areCardsAlike_65 fgX12_26 rfl g8 ha9 ?_
        refine r_aload_n (pc := 68) dX12_areCardsAlike_68 rfl 0 rfl ?_
        refine r_getS (pc := 69) dX12_areCardsAlike_69 fgX12_22 rfl g8 ha10 ?_
        refine r_iload_n (pc := 72) dX12_areCardsAlike_72 rfl 2 rfl ?_
        obtain ⟨g15, h⟩ := gd h
        refine r_iaload (pc := 73) dX12_areCardsAlike_73 g11 g15 ?_
        refine r_iload (pc := 74) dX12_areCardsAlike_74 4 rfl ?_
        refine r_iadd (pc := 76) dX12_areCardsAlike_76 ?_
        obtain ⟨g16, h⟩ := gd h
        refine r_laload (pc := 77) dX12_areCardsAlike_77 g13 g16 ?_
        refine r_lcmp (pc := 78) dX12_areCardsAlike_78 ?_
        refine r_ifne (pc := 79) (tgt := 86) dX12_areCardsAlike_79 rfl (fun c => ?_) (fun c => ?_)
        · have h := ie h (fun q => c (lgc_eq.mpr q))
          refine r_iconst (pc := 86) dX12_areCardsAlike_86 kc_iconst_0 ?_
          refine r_istore_n (pc := 87) (L' := [(3, vI (0 : Int32)), (0, vR (some t)), (1, vI x1), (2, vI x2), (4, vI x4)]) dX12_areCardsAlike_87 rfl (by decide) rfl ?_
          refine r_iinc (pc := 88) (v := (x4 + (1 : Int32))) (L' := [(4, vI (x4 + (1 : Int32))), (3, vI (0 : Int32)), (0, vR (some t)), (1, vI x1), (2, vI x2)]) dX12_areCardsAlike_88 4 rfl (kc_inc_1 _) (by decide) rfl ?_
          refine r_goto (pc := 91) (tgt := 39) dX12_areCardsAlike_91 rfl ?_
          refine r_sub [2, 3, 4, 1, 0] rfl ?_
          exact ih _ _ _ _ h
        · have h := it h (lgc_eq.mp c)
          refine r_iconst (pc := 82) dX12_areCardsAlike_82 kc_iconst_1 ?_
          refine r_goto (pc := 83) (tgt := 87) dX12_areCardsAlike_83 rfl ?_
          refine r_istore_n (pc := 87) (L' := [(3, vI (1 : Int32)), (0, vR (some t)), (1, vI x1), (2, vI x2), (4, vI x4)]) dX12_areCardsAlike_87 rfl (by decide) rfl ?_
          refine r_iinc (pc := 88) (v := (x4 + (1 : Int32))) (L' := [(4, vI (x4 + (1 : Int32))), (3, vI (1 : Int32)), (0, vR (some t)), (1, vI x1), (2, vI x2)]) dX12_areCardsAlike_88 4 rfl (kc_inc_1 _) (by decide) rfl ?_
          refine r_goto (pc := 91) (tgt := 39) dX12_areCardsAlike_91 rfl ?_
          refine r_sub [2, 3, 4, 1, 0] rfl ?_
          exact ih _ _ _ _ h
def fX12_areCardsAlike (σ : Shp) (I : Nat → Nat → Int32) (J : Nat → Nat → Int64) (R : Nat → Nat → Option Nat) (t : Nat) (x1 : Int32) (x2 : Int32) : Option ((Int32)) :=
  if kdx σ t = 13 then
  ((R t 15) : Option Nat).bind fun a2 =>
  if kdx σ a2 = 23 then
  if ¬ (x1 < 0 ∨ lnx σ a2 ≤ Int32.toNatClampNeg x1) then
  if ¬ (x2 < 0 ∨ lnx σ a2 ≤ Int32.toNatClampNeg x2) then
  if (I a2 (Int32.toNatClampNeg x1)) = (I a2 (Int32.toNatClampNeg x2)) then
    ((R t 16) : Option Nat).bind fun a19 =>
    if kdx σ a19 = 23 then
    if ¬ (x1 < 0 ∨ lnx σ a19 ≤ Int32.toNatClampNeg x1) then
    if ¬ (x2 < 0 ∨ lnx σ a19 ≤ Int32.toNatClampNeg x2) then
    if (I a19 (Int32.toNatClampNeg x1)) = (I a19 (Int32.toNatClampNeg x2)) then
      fX12_areCardsAlike_l39 σ I J R t FUx x1 x2 (1 : Int32) (0 : Int32)
    else
      fX12_areCardsAlike_l39 σ I J R t FUx x1 x2 (0 : Int32) (0 : Int32)
    else none
    else none
    else none
  else
    fX12_areCardsAlike_l39 σ I J R t FUx x1 x2 (0 : Int32) (0 : Int32)
  else none
  else none
  else none
  else none
theorem kX12_areCardsAlike {G : Gx} {l : Launch} {σ : Shp} {I : Nat → Nat → Int32} {J : Nat → Nat → Int64} {D : Nat → Nat → UInt64} {R : Nat → Nat → Option Nat} {t : Nat} {x1 : Int32} {x2 : Int32} {r9 : Int32} (h : fX12_areCardsAlike σ I J R t x1 x2 = some r9) : Con G l yX12_areCardsAlike cX12_areCardsAlike 5 (some .boolean) 0 0 [vR (some t), vI x1, vI x2] (σ, I, J, D, R) (σ, I, J, D, R) (some (vI r9)) := by
  unfold fX12_areCardsAlike at h
  refine Con.mk (by decide +kernel) rfl (Nat.le_of_ble_eq_true rfl) ?_
  show WX12_areCardsAlike G l σ (σ, I, J, D, R) (some (vI r9)) (σ, I, J, D, R) 0 _ []
  refine r_aload_n (pc := 0) dX12_areCardsAlike_0 rfl 0 rfl ?_
  obtain ⟨g1, h⟩ := gd h
  obtain ⟨a2, ha2, h⟩ := ob h
  refine r_getS (pc := 1) dX12_areCardsAlike_1 fgX12_47 rfl g1 ha2 ?_
  refine r_iload_n (pc := 4) dX12_areCardsAlike_4 rfl 1 rfl ?_
  obtain ⟨g3, h⟩ := gd h
  obtain ⟨g4, h⟩ := gd h
  refine r_saload (pc := 5) dX12_areCardsAlike_5 g3 g4 ?_
  refine r_aload_n (pc := 6) dX12_areCardsAlike_6 rfl 0 rfl ?_
  refine r_getS (pc := 7) dX12_areCardsAlike_7 fgX12_47 rfl g1 ha2 ?_
  refine r_iload_n (pc := 10) dX12_areCardsAlike_10 rfl 2 rfl ?_
  obtain ⟨g5, h⟩ := gd h
  refine r_saload (pc := 11) dX12_areCardsAlike_11 g3 g5 ?_
  refine r_icmp_ne (pc := 12) (tgt := 34) dX12_areCardsAlike_12 rfl (fun c => ?_) (fun c => ?_)
  · have h := ie h c
    refine r_iconst (pc := 34) dX12_areCardsAlike_34 kc_iconst_0 ?_
    refine r_istore_n (pc := 35) (L' := [(3, vI (0 : Int32)), (0, vR (some t)), (1, vI x1), (2, vI x2)]) dX12_areCardsAlike_35 rfl (by decide) rfl ?_
    refine r_iconst (pc := 36) dX12_areCardsAlike_36 kc_iconst_0 ?_
    refine r_istore (pc := 37) (L' := [(4, vI (0 : Int32)), (3, vI (0 : Int32)), (0, vR (some t)), (1, vI x1), (2, vI x2)]) dX12_areCardsAlike_37 (by decide) rfl ?_
    refine r_sub [2, 3, 4, 1, 0] rfl ?_
    exact wX12_areCardsAlike_l39 _ _ _ _ _ h
  · have h := it h c
    refine r_aload_n (pc := 15) dX12_areCardsAlike_15 rfl 0 rfl ?_
    obtain ⟨a19, ha19, h⟩ := ob h
    refine r_getS (pc := 16) dX12_areCardsAlike_16 fgX12_50 rfl g1 ha19 ?_
    refine r_iload_n (pc := 19) dX12_areCardsAlike_19 rfl 1 rfl ?_
    obtain ⟨g20, h⟩ := gd h
    obtain ⟨g21, h⟩ := gd h
    refine r_saload (pc := 20) dX12_areCardsAlike_20 g20 g21 ?_
    refine r_aload_n (pc := 21) dX12_areCardsAlike_21 rfl 0 rfl ?_
    refine r_getS (pc := 22) dX12_areCardsAlike_22 fgX12_50 rfl g1 ha19 ?_
    refine r_iload_n (pc := 25) dX12_areCardsAlike_25 rfl 2 rfl ?_
    obtain ⟨g22, h⟩ := gd h
    refine r_saload (pc := 26) dX12_areCardsAlike_26 g20 g22 ?_
    refine r_icmp_ne (pc := 27) (tgt := 34) dX12_areCardsAlike_27 rfl (fun c => ?_) (fun c => ?_)
    · have h := ie h c
      refine r_iconst (pc := 34) dX12_areCardsAlike_34 kc_iconst_0 ?_
      refine r_istore_n (pc := 35) (L' := [(3, vI (0 : Int32)), (0, vR (some t)), (1, vI x1), (2, vI x2)]) dX12_areCardsAlike_35 rfl (by decide) rfl ?_
      refine r_iconst (pc := 36) dX12_areCardsAlike_36 kc_iconst_0 ?_
      refine r_istore (pc := 37) (L' := [(4, vI (0 : Int32)), (3, vI (0 : Int32)), (0, vR (some t)), (1, vI x1), (2, vI x2)]) dX12_areCardsAlike_37 (by decide) rfl ?_
      refine r_sub [2, 3, 4, 1, 0] rfl ?_
      exact wX12_areCardsAlike_l39 _ _ _ _ _ h
    · have h := it h c
      refine r_iconst (pc := 30) dX12_areCardsAlike_30 kc_iconst_1 ?_
      refine r_goto (pc := 31) (tgt := 35) dX12_areCardsAlike_31 rfl ?_
      refine r_istore_n (pc := 35) (L' := [(3, vI (1 : Int32)), (0, vR (some t)), (1, vI x1), (2, vI x2)]) dX12_areCardsAlike_35 rfl (by decide) rfl ?_
      refine r_iconst (pc := 36) dX12_areCardsAlike_36 kc_iconst_0 ?_
      refine r_istore (pc := 37) (L' := [(4, vI (0 : Int32)), (3, vI (1 : Int32)), (0, vR (some t)), (1, vI x1), (2, vI x2)]) dX12_areCardsAlike_37 (by decide) rfl ?_
      refine r_sub [2, 3, 4, 1, 0] rfl ?_
      exact wX12_areCardsAlike_l39 _ _ _ _ _ h
