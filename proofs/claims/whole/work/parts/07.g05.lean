abbrev WX11_isHouse (G : Gx) (l : Launch) (σ0 : Shp) (X1 : Stt) (rv : Option SV) : Stt → Nat → List (Nat × SV) → List SV → Prop := Wm G l yX11_isHouse cX11_isHouse 1 (some .boolean) (fun _ => True) (rmx 0 0 σ0 X1.1) σ0 (Qmx G σ0 X1 rv)
def fX11_isHouse  (x0 : Int32) : (Int32) :=
  if x0 < 0 then
    (0 : Int32)
  else
    if (3 : Int32) ≤ x0 then
      (0 : Int32)
    else
      (1 : Int32)
theorem zX11_isHouse  (x0 : Int32) : fX11_isHouse x0 = 0 ∨ fX11_isHouse x0 = 1 := by
  unfold fX11_isHouse
  repeat' (first | refine itz ?_ ?_ | exact Or.inl rfl | exact Or.inr rfl)
theorem kX11_isHouse {G : Gx} {l : Launch} {σ : Shp} {I : Nat → Nat → Int32} {J : Nat → Nat → Int64} {D : Nat → Nat → UInt64} {R : Nat → Nat → Option Nat} {x0 : Int32} {r9 : Int32} (h : fX11_isHouse x0 = r9) : Con G l yX11_isHouse cX11_isHouse 1 (some .boolean) 0 0 [vI x0] (σ, I, J, D, R) (σ, I, J, D, R) (some (vI r9)) := by
  unfold fX11_isHouse at h
  refine Con.mk (by decide +kernel) rfl (Nat.le_of_ble_eq_true rfl) ?_
  show WX11_isHouse G l σ (σ, I, J, D, R) (some (vI r9)) (σ, I, J, D, R) 0 _ []
  refine r_iload_n (pc := 0) dX11_isHouse_0 rfl 0 rfl ?_
  refine r_if_lt (pc := 1) (tgt := 13) dX11_isHouse_1 rfl (fun c => ?_) (fun c => ?_)
  · have h := it h c
    refine r_iconst (pc := 13) dX11_isHouse_13 kc_iconst_0 ?_
    subst h
    exact r_zret dX11_isHouse_14 (Or.inl rfl)
  · have h := ie h c
    refine r_iload_n (pc := 4) dX11_isHouse_4 rfl 0 rfl ?_
    refine r_iconst (pc := 5) dX11_isHouse_5 kc_iconst_3 ?_
    refine r_icmp_ge (pc := 6) (tgt := 13) dX11_isHouse_6 rfl (fun c => ?_) (fun c => ?_)
    · have h := it h c
      refine r_iconst (pc := 13) dX11_isHouse_13 kc_iconst_0 ?_
      subst h
      exact r_zret dX11_isHouse_14 (Or.inl rfl)
    · have h := ie h c
      refine r_iconst (pc := 9) dX11_isHouse_9 kc_iconst_1 ?_
      refine r_goto (pc := 10) (tgt := 14) dX11_isHouse_10 rfl ?_
      subst h
      exact r_zret dX11_isHouse_14 (Or.inr rfl)
abbrev WX11_voted (G : Gx) (l : Launch) (σ0 : Shp) (X1 : Stt) (rv : Option SV) : Stt → Nat → List (Nat × SV) → List SV → Prop := Wm G l yX11_voted cX11_voted 2 (some .long) (fun _ => True) (rmx 1 20 σ0 X1.1) σ0 (Qmx G σ0 X1 rv)
def fX11_voted (σ : Shp) (J : Nat → Nat → Int64) (R : Nat → Nat → Option Nat) (t : Nat) (x1 : Int32) : Option ((Int64)) :=
  if (fX11_isHouse x1) = 0 then
    some (0 : Int64)
  else
    if kdx σ t = 12 then
    ((R t 5) : Option Nat).bind fun a2 =>
    if kdx σ a2 = 5 then
    ((R a2 5) : Option Nat).bind fun a4 =>
    if kdx σ a4 = 21 then
    if ¬ (x1 < 0 ∨ lnx σ a4 ≤ Int32.toNatClampNeg x1) then
    some (J a4 (Int32.toNatClampNeg x1))
    else none
    else none
    else none
    else none
theorem kX11_voted {G : Gx} {l : Launch} {σ : Shp} {I : Nat → Nat → Int32} {J : Nat → Nat → Int64} {D : Nat → Nat → UInt64} {R : Nat → Nat → Option Nat} {t : Nat} {x1 : Int32} {r9 : Int64} (h : fX11_voted σ J R t x1 = some r9) : Con G l yX11_voted cX11_voted 2 (some .long) 1 20 [vR (some t), vI x1] (σ, I, J, D, R) (σ, I, J, D, R) (some (vL r9)) := by
  unfold fX11_voted at h
  refine Con.mk (by decide +kernel) rfl (Nat.le_of_ble_eq_true rfl) ?_
  show WX11_voted G l σ (σ, I, J, D, R) (some (vL r9)) (σ, I, J, D, R) 0 _ []
  refine r_iload_n (pc := 0) dX11_voted_0 rfl 1 rfl ?_
  refine r_callS1 (pc := 1) (av := [vI x1]) (S := []) dX11_voted_1 (kX11_isHouse rfl) mkX11_365 mwX11_isHouse rfl ⟨Nat.le_of_ble_eq_true rfl, Nat.le_of_ble_eq_true rfl⟩ (Nat.le_of_ble_eq_true rfl) ⟨Nat.le_refl _, Nat.le_refl _⟩ (fun b => b) ?_
  refine r_if_eq (pc := 4) (tgt := 19) dX11_voted_4 rfl (fun c => ?_) (fun c => ?_)
  · have h := it h c
    refine r_lconst (pc := 19) dX11_voted_19 kc_lconst_0 ?_
    cases h
    exact r_lret dX11_voted_20
  · have h := ie h c
    refine r_aload_n (pc := 7) dX11_voted_7 rfl 0 rfl ?_
    obtain ⟨g1, h⟩ := gd h
    obtain ⟨a2, ha2, h⟩ := ob h
    refine r_getS (pc := 8) dX11_voted_8 fgX11_39 rfl g1 ha2 ?_
    obtain ⟨g3, h⟩ := gd h
    obtain ⟨a4, ha4, h⟩ := ob h
    refine r_getS (pc := 11) dX11_voted_11 fgX11_368 rfl g3 ha4 ?_
    refine r_iload_n (pc := 14) dX11_voted_14 rfl 1 rfl ?_
    obtain ⟨g5, h⟩ := gd h
    obtain ⟨g6, h⟩ := gd h
    refine r_laload (pc := 15) dX11_voted_15 g5 g6 ?_
    refine r_goto (pc := 16) (tgt := 20) dX11_voted_16 rfl ?_
    cases h
    exact r_lret dX11_voted_20
abbrev WX11_weather (G : Gx) (l : Launch) (σ0 : Shp) (X1 : Stt) (rv : Option SV) : Stt → Nat → List (Nat × SV) → List SV → Prop := Wm G l yX11_weather cX11_weather 3 (some .int) (fun _ => True) (rmx 1 23 σ0 X1.1) σ0 (Qmx G σ0 X1 rv)
def fX11_weather (σ : Shp) (I : Nat → Nat → Int32) (R : Nat → Nat → Option Nat) (t : Nat) (x1 : Int32) (x2 : Int32) : Option ((Nat → Nat → Int32) × (Int32)) :=
  if kdx σ t = 12 then
  ((R t 5) : Option Nat).bind fun a2 =>
  if kdx σ a2 = 5 then
  (fX4_newWeather σ I R a2 x1 x2).bind fun (I4, r5) =>
  some (I4, r5)
  else none
  else none
theorem kX11_weather {G : Gx} {l : Launch} {σ : Shp} {I : Nat → Nat → Int32} {J : Nat → Nat → Int64} {D : Nat → Nat → UInt64} {R : Nat → Nat → Option Nat} {t : Nat} {x1 : Int32} {x2 : Int32} {I9 : Nat → Nat → Int32} {r9 : Int32} (h : fX11_weather σ I R t x1 x2 = some (I9, r9)) : Con G l yX11_weather cX11_weather 3 (some .int) 1 23 [vR (some t), vI x1, vI x2] (σ, I, J, D, R) (σ, I9, J, D, R) (some (vI r9)) := by
  unfold fX11_weather at h
  refine Con.mk (by decide +kernel) rfl (Nat.le_of_ble_eq_true rfl) ?_
  show WX11_weather G l σ (σ, I9, J, D, R) (some (vI r9)) (σ, I, J, D, R) 0 _ []
  refine r_aload_n (pc := 0) dX11_weather_0 rfl 0 rfl ?_
  obtain ⟨g1, h⟩ := gd h
  obtain ⟨a2, ha2, h⟩ := ob h
  refine r_getS (pc := 1) dX11_weather_1 fgX11_39 rfl g1 ha2 ?_
  refine r_iload_n (pc := 4) dX11_weather_4 rfl 1 rfl ?_
  refine r_iload_n (pc := 5) dX11_weather_5 rfl 2 rfl ?_
  obtain ⟨g3, h⟩ := gd h
  obtain ⟨⟨I4, r5⟩, hc6, h⟩ := ob h
  refine r_callV1 (pc := 6) (av := [vI x1, vI x2]) (S := []) dX11_weather_6 (kX4_newWeather hc6) g3 rfl mkX11_371 mwX4_newWeather rfl ⟨Nat.le_of_ble_eq_true rfl, Nat.le_of_ble_eq_true rfl⟩ (Nat.le_of_ble_eq_true rfl) ⟨Nat.le_refl _, Nat.le_refl _⟩ (fun b => b) ?_
  cases h
  exact r_iret dX11_weather_9
abbrev WX11_mark (G : Gx) (l : Launch) (σ0 : Shp) (X1 : Stt) (rv : Option SV) : Stt → Nat → List (Nat × SV) → List SV → Prop := Wm G l yX11_mark cX11_mark 4 (some .int) (fun _ => True) (rmx 1 24 σ0 X1.1) σ0 (Qmx G σ0 X1 rv)
def fX11_mark (σ : Shp) (I : Nat → Nat → Int32) (R : Nat → Nat → Option Nat) (t : Nat) (x1 : Int32) (x2 : Int32) (x3 : Int32) : Option ((Nat → Nat → Int32) × (Int32)) :=
  if (fX11_isHouse x1) = 0 then
    some (I, (-2 : Int32))
  else
    if kdx σ t = 12 then
    ((R t 5) : Option Nat).bind fun a2 =>
    if kdx σ a2 = 5 then
    (fX4_markAdded σ I R a2 x1 x2 x3).bind fun (I4, r5) =>
    some (I4, r5)
    else none
    else none
theorem kX11_mark {G : Gx} {l : Launch} {σ : Shp} {I : Nat → Nat → Int32} {J : Nat → Nat → Int64} {D : Nat → Nat → UInt64} {R : Nat → Nat → Option Nat} {t : Nat} {x1 : Int32} {x2 : Int32} {x3 : Int32} {I9 : Nat → Nat → Int32} {r9 : Int32} (h : fX11_mark σ I R t x1 x2 x3 = some (I9, r9)) : Con G l yX11_mark cX11_mark 4 (some .int) 1 24 [vR (some t), vI x1, vI x2, vI x3] (σ, I, J, D, R) (σ, I9, J, D, R) (some (vI r9)) := by
  unfold fX11_mark at h
  refine Con.mk (by decide +kernel) rfl (Nat.le_of_ble_eq_true rfl) ?_
  show WX11_mark G l σ (σ, I9, J, D, R) (some (vI r9)) (σ, I, J, D, R) 0 _ []
  refine r_iload_n (pc := 0) dX11_mark_0 rfl 1 rfl ?_
  refine r_callS1 (pc := 1) (av := [vI x1]) (S := []) dX11_mark_1 (kX11_isHouse rfl) mkX11_365 mwX11_isHouse rfl ⟨Nat.le_of_ble_eq_true rfl, Nat.le_of_ble_eq_true rfl⟩ (Nat.le_of_ble_eq_true rfl) ⟨Nat.le_refl _, Nat.le_refl _⟩ (fun b => b) ?_
  refine r_if_eq (pc := 4) (tgt := 20) dX11_mark_4 rfl (fun c => ?_) (fun c => ?_)
  · have h := it h c
    refine r_bipush (pc := 20) dX11_mark_20 kc_bipush_m2 ?_
    cases h
    exact r_iret dX11_mark_22
  · have h := ie h c
    refine r_aload_n (pc := 7) dX11_mark_7 rfl 0 rfl ?_
    obtain ⟨g1, h⟩ := gd h
    obtain ⟨a2, ha2, h⟩ := ob h
    refine r_getS (pc := 8) dX11_mark_8 fgX11_39 rfl g1 ha2 ?_
    refine r_iload_n (pc := 11) dX11_mark_11 rfl 1 rfl ?_
    refine r_iload_n (pc := 12) dX11_mark_12 rfl 2 rfl ?_
    refine r_iload_n (pc := 13) dX11_mark_13 rfl 3 rfl ?_
    obtain ⟨g3, h⟩ := gd h
    obtain ⟨⟨I4, r5⟩, hc6, h⟩ := ob h
    refine r_callV1 (pc := 14) (av := [vI x1, vI x2, vI x3]) (S := []) dX11_mark_14 (kX4_markAdded hc6) g3 rfl mkX11_374 mwX4_markAdded rfl ⟨Nat.le_of_ble_eq_true rfl, Nat.le_of_ble_eq_true rfl⟩ (Nat.le_of_ble_eq_true rfl) ⟨Nat.le_refl _, Nat.le_refl _⟩ (fun b => b) ?_
    refine r_goto (pc := 17) (tgt := 22) dX11_mark_17 rfl ?_
    cases h
    exact r_iret dX11_mark_22
abbrev WX11_unmark (G : Gx) (l : Launch) (σ0 : Shp) (X1 : Stt) (rv : Option SV) : Stt → Nat → List (Nat × SV) → List SV → Prop := Wm G l yX11_unmark cX11_unmark 2 (some .int) (fun _ => True) (rmx 1 22 σ0 X1.1) σ0 (Qmx G σ0 X1 rv)
def fX11_unmark (σ : Shp) (I : Nat → Nat → Int32) (R : Nat → Nat → Option Nat) (t : Nat) (x1 : Int32) : Option ((Nat → Nat → Int32) × (Int32)) :=
  if (fX11_isHouse x1) = 0 then
    some (I, (-2 : Int32))
  else
    if kdx σ t = 12 then
    ((R t 5) : Option Nat).bind fun a2 =>
    if kdx σ a2 = 5 then
    (fX4_marksGone σ I R a2 x1).bind fun (I4, r5) =>
    some (I4, r5)
    else none
    else none
theorem kX11_unmark {G : Gx} {l : Launch} {σ : Shp} {I : Nat → Nat → Int32} {J : Nat → Nat → Int64} {D : Nat → Nat → UInt64} {R : Nat → Nat → Option Nat} {t : Nat} {x1 : Int32} {I9 : Nat → Nat → Int32} {r9 : Int32} (h : fX11_unmark σ I R t x1 = some (I9, r9)) : Con G l yX11_unmark cX11_unmark 2 (some .int) 1 22 [vR (some t), vI x1] (σ, I, J, D, R) (σ, I9, J, D, R) (some (vI r9)) := by
  unfold fX11_unmark at h
  refine Con.mk (by decide +kernel) rfl (Nat.le_of_ble_eq_true rfl) ?_
  show WX11_unmark G l σ (σ, I9, J, D, R) (some (vI r9)) (σ, I, J, D, R) 0 _ []
  refine r_iload_n (pc := 0) dX11_unmark_0 rfl 1 rfl ?_
  refine r_callS1 (pc := 1) (av := [vI x1]) (S := []) dX11_unmark_1 (kX11_isHouse rfl) mkX11_365 mwX11_isHouse rfl ⟨Nat.le_of_ble_eq_true rfl, Nat.le_of_ble_eq_true rfl⟩ (Nat.le_of_ble_eq_true rfl) ⟨Nat.le_refl _, Nat.le_refl _⟩ (fun b => b) ?_
  refine r_if_eq (pc := 4) (tgt := 18) dX11_unmark_4 rfl (fun c => ?_) (fun c => ?_)
  · have h := it h c
    refine r_bipush (pc := 18) dX11_unmark_18 kc_bipush_m2 ?_
    cases h
    exact r_iret dX11_unmark_20
  · have h := ie h c
    refine r_aload_n (pc := 7) dX11_unmark_7 rfl 0 rfl ?_
    obtain ⟨g1, h⟩ := gd h
    obtain ⟨a2, ha2, h⟩ := ob h
    refine r_getS (pc := 8) dX11_unmark_8 fgX11_39 rfl g1 ha2 ?_
    refine r_iload_n (pc := 11) dX11_unmark_11 rfl 1 rfl ?_
    obtain ⟨g3, h⟩ := gd h
    obtain ⟨⟨I4, r5⟩, hc6, h⟩ := ob h
    refine r_callV1 (pc := 12) (av := [vI x1]) (S := []) dX11_unmark_12 (kX4_marksGone hc6) g3 rfl mkX11_377 mwX4_marksGone rfl ⟨Nat.le_of_ble_eq_true rfl, Nat.le_of_ble_eq_true rfl⟩ (Nat.le_of_ble_eq_true rfl) ⟨Nat.le_refl _, Nat.le_refl _⟩ (fun b => b) ?_
    refine r_goto (pc := 15) (tgt := 20) dX11_unmark_15 rfl ?_
    cases h
    exact r_iret dX11_unmark_20
abbrev WX11_wish (G : Gx) (l : Launch) (σ0 : Shp) (X1 : Stt) (rv : Option SV) : Stt → Nat → List (Nat × SV) → List SV → Prop := Wm G l yX11_wish cX11_wish 3 (some .int) (fun _ => True) (rmx 2 55 σ0 X1.1) σ0 (Qmx G σ0 X1 rv)
def fX11_wish (σ : Shp) (I : Nat → Nat → Int32) (R : Nat → Nat → Option Nat) (t : Nat) (x1 : Int32) (x2 : Int32) : Option ((Int32)) :=
  if (fX11_isHouse x1) = 0 then
    some (-100000 : Int32)
  else
    if x2 < 0 then
      some (-100000 : Int32)
    else
      if x2 ≤ (1439 : Int32) then
        if kdx σ t = 12 then
        ((R t 5) : Option Nat).bind fun a2 =>
        if kdx σ a2 = 5 then
        (fX4_hasWish σ I R a2 x1).bind fun r4 =>
        if r4 = 0 then
          some (-100001 : Int32)
        else
          (fX4_wishAt σ I R a2 x1 x2).bind fun r6 =>
          some r6
        else none
        else none
      else
        some (-100000 : Int32)
theorem kX11_wish {G : Gx} {l : Launch} {σ : Shp} {I : Nat → Nat → Int32} {J : Nat → Nat → Int64} {D : Nat → Nat → UInt64} {R : Nat → Nat → Option Nat} {t : Nat} {x1 : Int32} {x2 : Int32} {r9 : Int32} (h : fX11_wish σ I R t x1 x2 = some r9) : Con G l yX11_wish cX11_wish 3 (some .int) 2 55 [vR (some t), vI x1, vI x2] (σ, I, J, D, R) (σ, I, J, D, R) (some (vI r9)) := by
  unfold fX11_wish at h
  refine Con.mk (by decide +kernel) rfl (Nat.le_of_ble_eq_true rfl) ?_
  show WX11_wish G l σ (σ, I, J, D, R) (some (vI r9)) (σ, I, J, D, R) 0 _ []
  refine r_iload_n (pc := 0) dX11_wish_0 rfl 1 rfl ?_
  refine r_callS1 (pc := 1) (av := [vI x1]) (S := []) dX11_wish_1 (kX11_isHouse rfl) mkX11_365 mwX11_isHouse rfl ⟨Nat.le_of_ble_eq_true rfl, Nat.le_of_ble_eq_true rfl⟩ (Nat.le_of_ble_eq_true rfl) ⟨Nat.le_refl _, Nat.le_refl _⟩ (fun b => b) ?_
  refine r_if_eq (pc := 4) (tgt := 18) dX11_wish_4 rfl (fun c => ?_) (fun c => ?_)
  · have h := it h c
    refine r_ldcw (pc := 18) dX11_wish_18 ciX11_380 ?_
    cases h
    exact r_iret dX11_wish_21
  · have h := ie h c
    refine r_iload_n (pc := 7) dX11_wish_7 rfl 2 rfl ?_
    refine r_if_lt (pc := 8) (tgt := 18) dX11_wish_8 rfl (fun c => ?_) (fun c => ?_)
    · have h := it h c
      refine r_ldcw (pc := 18) dX11_wish_18 ciX11_380 ?_
      cases h
      exact r_iret dX11_wish_21
    · have h := ie h c
      refine r_iload_n (pc := 11) dX11_wish_11 rfl 2 rfl ?_
      refine r_sipush (pc := 12) dX11_wish_12 kc_sipush_1439 ?_
      refine r_icmp_le (pc := 15) (tgt := 22) dX11_wish_15 rfl (fun c => ?_) (fun c => ?_)
      · have h := it h c
        refine r_aload_n (pc := 22) dX11_wish_22 rfl 0 rfl ?_
        obtain ⟨g1, h⟩ := gd h
        obtain ⟨a2, ha2, h⟩ := ob h
        refine r_getS (pc := 23) dX11_wish_23 fgX11_39 rfl g1 ha2 ?_
        refine r_iload_n (pc := 26) dX11_wish_26 rfl 1 rfl ?_
        obtain ⟨g3, h⟩ := gd h
        obtain ⟨r4, hc5, h⟩ := ob h
        refine r_callV1 (pc := 27) (av := [vI x1]) (S := []) dX11_wish_27 (kX4_hasWish hc5) g3 rfl mkX11_381 mwX4_hasWish rfl ⟨Nat.le_of_ble_eq_true rfl, Nat.le_of_ble_eq_true rfl⟩ (Nat.le_of_ble_eq_true rfl) ⟨Nat.le_refl _, Nat.le_refl _⟩ (fun b => b) ?_
        refine r_if_eq (pc := 30) (tgt := 45) dX11_wish_30 rfl (fun c => ?_) (fun c => ?_)
        · have h := it h c
          refine r_ldcw (pc := 45) dX11_wish_45 ciX11_387 ?_
          cases h
          exact r_iret dX11_wish_48
        · have h := ie h c
          refine r_aload_n (pc := 33) dX11_wish_33 rfl 0 rfl ?_
          refine r_getS (pc := 34) dX11_wish_34 fgX11_39 rfl g1 ha2 ?_
          refine r_iload_n (pc := 37) dX11_wish_37 rfl 1 rfl ?_
          refine r_iload_n (pc := 38) dX11_wish_38 rfl 2 rfl ?_
          obtain ⟨r6, hc7, h⟩ := ob h
          refine r_callV1 (pc := 39) (av := [vI x1, vI x2]) (S := []) dX11_wish_39 (kX4_wishAt hc7) g3 rfl mkX11_384 mwX4_wishAt rfl ⟨Nat.le_of_ble_eq_true rfl, Nat.le_of_ble_eq_true rfl⟩ (Nat.le_of_ble_eq_true rfl) ⟨Nat.le_refl _, Nat.le_refl _⟩ (fun b => b) ?_
          refine r_goto (pc := 42) (tgt := 48) dX11_wish_42 rfl ?_
          cases h
          exact r_iret dX11_wish_48
      · have h := ie h c
        refine r_ldcw (pc := 18) dX11_wish_18 ciX11_380 ?_
        cases h
        exact r_iret dX11_wish_21
abbrev WX11_minute (G : Gx) (l : Launch) (σ0 : Shp) (X1 : Stt) (rv : Option SV) : Stt → Nat → List (Nat × SV) → List SV → Prop := Wm G l yX11_minute cX11_minute 3 (some .int) (fun _ => True) (rmx 13 306 σ0 X1.1) σ0 (Qmx G σ0 X1 rv)
def fX11_minute_l34  (σ : Shp) (D : Nat → Nat → UInt64) (R : Nat → Nat → Option Nat) (t : Nat) : Nat → (Nat → Nat → Int32) → (Nat → Nat → Int64) → (Int32) → (Int32) → Option ((Nat → Nat → Int32) × (Nat → Nat → Int64) × (Int32))
  | 0, _, _, _, _ => none
  | n + 1, I, J, x1, x2 =>
    if x1 ≤ x2 then
      if kdx σ t = 12 then
      ((R t 5) : Option Nat).bind fun a5 =>
      if kdx σ a5 = 5 then
      some (I, J, (I a5 13))
      else none
      else none
    else
      if kdx σ t = 12 then
      ((R t 5) : Option Nat).bind fun a8 =>
      if kdx σ a8 = 5 then
      (fX4_passMinute σ I J D R a8).bind fun (I10, J11) =>
      let v13 := x2 + (1 : Int32)
      fX11_minute_l34 σ D R t n I10 J11 x1 v13
      else none
      else none
theorem wX11_minute_l34 {G : Gx} {l : Launch} {σ : Shp} {D : Nat → Nat → UInt64} {R : Nat → Nat → Option Nat} {t : Nat} {I9 : Nat → Nat → Int32} {J9 : Nat → Nat → Int64} {r9 : Int32} : ∀ (n : Nat) (I : Nat → Nat → Int32) (J : Nat → Nat → Int64) (x1 : Int32) (x2 : Int32), fX11_minute_l34 σ D R t n I J x1 x2 = some (I9, J9, r9) → WX11_minute G l σ (σ, I9, J9, D, R) (some (vI r9)) (σ, I, J, D, R) 34 [(0, vR (some t)), (1, vI x1), (2, vI x2)] [] := by
  intro n
  induction n with
  | zero =>
    intro I J x1 x2 h
    have h : none = some _ := h
    cases h
  | succ n ih =>
    intro I J x1 x2 h
    rw [fX11_minute_l34] at h
    refine r_iload_n (pc := 34) dX11_minute_34 rfl 2 rfl ?_
    refine r_iload_n (pc := 35) dX11_minute_35 rfl 1 rfl ?_
    refine r_icmp_ge (pc := 36) (tgt := 52) dX11_minute_36 rfl (fun c => ?_) (fun c => ?_)
    · have h := it h c
      refine r_aload_n (pc := 52) dX11_minute_52 rfl 0 rfl ?_
      obtain ⟨g4, h⟩ := gd h
      obtain ⟨a5, ha5, h⟩ := ob h
      refine r_getS (pc := 53) dX11_minute_53 fgX11_39 rfl g4 ha5 ?_
      obtain ⟨g6, h⟩ := gd h
      refine r_getI (pc := 56) dX11_minute_56 fgX11_388 rfl g6 ?_
      cases h
      exact r_iret dX11_minute_59
    · have h := ie h c
      refine r_aload_n (pc := 39) dX11_minute_39 rfl 0 rfl ?_
      obtain ⟨g7, h⟩ := gd h
      obtain ⟨a8, ha8, h⟩ := ob h
      refine r_getS (pc := 40) dX11_minute_40 fgX11_39 rfl g7 ha8 ?_
      obtain ⟨g9, h⟩ := gd h
      obtain ⟨⟨I10, J11⟩, hc12, h⟩ := ob h
      refine r_callV0 (pc := 43) (av := []) (S := []) dX11_minute_43 (kX4_passMinute hc12) g9 rfl mkX11_392 mwX4_passMinute rfl ⟨Nat.le_of_ble_eq_true rfl, Nat.le_of_ble_eq_true rfl⟩ (Nat.le_of_ble_eq_true rfl) ⟨Nat.le_refl _, Nat.le_refl _⟩ (fun b => b) ?_
      refine r_iinc (pc := 46) (v := (x2 + (1 : Int32))) (L' := [(2, vI (x2 + (1 : Int32))), (0, vR (some t)), (1, vI x1)]) dX11_minute_46 2 rfl (kc_inc_1 _) (by decide) rfl ?_
      refine r_goto (pc := 49) (tgt := 34) dX11_minute_49 rfl ?_
      refine r_sub [1, 2, 0] rfl ?_
      exact ih _ _ _ _ h
def fX11_minute (σ : Shp) (I : Nat → Nat → Int32) (J : Nat → Nat → Int64) (D : Nat → Nat → UInt64) (R : Nat → Nat → Option Nat) (t : Nat) (x1 : Int32) : Option ((Nat → Nat → Int32) × (Nat → Nat → Int64) × (Int32)) :=
  if x1 < (1 : Int32) then
    some (I, J, (-2 : Int32))
  else
    if x1 ≤ (100 : Int32) then
      if kdx σ t = 12 then
      ((R t 5) : Option Nat).bind fun a2 =>
      if kdx σ a2 = 5 then
      if ((I a2 13) + x1) ≤ (100000 : Int32) then
        fX11_minute_l34 σ D R t FUx I J x1 (0 : Int32)
      else
        some (I, J, (-4 : Int32))
      else none
      else none
    else
      some (I, J, (-2 : Int32))
theorem kX11_minute {G : Gx} {l : Launch} {σ : Shp} {I : Nat → Nat → Int32} {J : Nat → Nat → Int64} {D : Nat → Nat → UInt64} {R : Nat → Nat → Option Nat} {t : Nat} {x1 : Int32} {I9 : Nat → Nat → Int32} {J9 : Nat → Nat → Int64} {r9 : Int32} (h : fX11_minute σ I J D R t x1 = some (I9, J9, r9)) : Con G l yX11_minute cX11_minute 3 (some .int) 13 306 [vR (some t), vI x1] (σ, I, J, D, R) (σ, I9, J9, D, R) (some (vI r9)) := by
  unfold fX11_minute at h
  refine Con.mk (by decide +kernel) rfl (Nat.le_of_ble_eq_true rfl) ?_
  show WX11_minute G l σ (σ, I9, J9, D, R) (some (vI r9)) (σ, I, J, D, R) 0 _ []
  refine r_iload_n (pc := 0) dX11_minute_0 rfl 1 rfl ?_
  refine r_iconst (pc := 1) dX11_minute_1 kc_iconst_1 ?_
  refine r_icmp_lt (pc := 2) (tgt := 11) dX11_minute_2 rfl (fun c => ?_) (fun c => ?_)
  · have h := it h c
    refine r_bipush (pc := 11) dX11_minute_11 kc_bipush_m2 ?_
    cases h
    exact r_iret dX11_minute_13
  · have h := ie h c
    refine r_iload_n (pc := 5) dX11_minute_5 rfl 1 rfl ?_
    refine r_bipush (pc := 6) dX11_minute_6 kc_bipush_100 ?_
    refine r_icmp_le (pc := 8) (tgt := 14) dX11_minute_8 rfl (fun c => ?_) (fun c => ?_)
    · have h := it h c
      refine r_aload_n (pc := 14) dX11_minute_14 rfl 0 rfl ?_
      obtain ⟨g1, h⟩ := gd h
      obtain ⟨a2, ha2, h⟩ := ob h
      refine r_getS (pc := 15) dX11_minute_15 fgX11_39 rfl g1 ha2 ?_
      obtain ⟨g3, h⟩ := gd h
      refine r_getI (pc := 18) dX11_minute_18 fgX11_388 rfl g3 ?_
      refine r_iload_n (pc := 21) dX11_minute_21 rfl 1 rfl ?_
      refine r_iadd (pc := 22) dX11_minute_22 ?_
      refine r_ldcw (pc := 23) dX11_minute_23 ciX11_391 ?_
      refine r_icmp_le (pc := 26) (tgt := 32) dX11_minute_26 rfl (fun c => ?_) (fun c => ?_)
      · have h := it h c
        refine r_iconst (pc := 32) dX11_minute_32 kc_iconst_0 ?_
        refine r_istore_n (pc := 33) (L' := [(2, vI (0 : Int32)), (0, vR (some t)), (1, vI x1)]) dX11_minute_33 rfl (by decide) rfl ?_
        refine r_sub [1, 2, 0] rfl ?_
        exact wX11_minute_l34 _ _ _ _ _ h
      · have h := ie h c
        refine r_bipush (pc := 29) dX11_minute_29 kc_bipush_m4 ?_
        cases h
        exact r_iret dX11_minute_31
    · have h := ie h c
      refine r_bipush (pc := 11) dX11_minute_11 kc_bipush_m2 ?_
      cases h
      exact r_iret dX11_minute_13
abbrev WX11_air (G : Gx) (l : Launch) (σ0 : Shp) (X1 : Stt) (rv : Option SV) : Stt → Nat → List (Nat × SV) → List SV → Prop := Wm G l yX11_air cX11_air 3 (some .long) (fun _ => True) (rmx 1 20 σ0 X1.1) σ0 (Qmx G σ0 X1 rv)
def fX11_air (σ : Shp) (J : Nat → Nat → Int64) (R : Nat → Nat → Option Nat) (t : Nat) (x1 : Int32) (x2 : Int32) : Option ((Int64)) :=
  if (fX11_isHouse x1) = 0 then
    some (0 : Int64)
  else
    if x2 < 0 then
      some (0 : Int64)
    else
      if (10 : Int32) < x2 then
        some (0 : Int64)
      else
        if kdx σ t = 12 then
        ((R t 5) : Option Nat).bind fun a2 =>
        if kdx σ a2 = 5 then
        ((R a2 8) : Option Nat).bind fun a4 =>
        if kdx σ a4 = 29 then
        if ¬ (x1 < 0 ∨ lnx σ a4 ≤ Int32.toNatClampNeg x1) then
        ((R a4 (Int32.toNatClampNeg x1)) : Option Nat).bind fun a7 =>
        if kdx σ a7 = 21 then
        if ¬ (x2 < 0 ∨ lnx σ a7 ≤ Int32.toNatClampNeg x2) then
        some (J a7 (Int32.toNatClampNeg x2))
        else none
        else none
        else none
        else none
        else none
        else none
theorem kX11_air {G : Gx} {l : Launch} {σ : Shp} {I : Nat → Nat → Int32} {J : Nat → Nat → Int64} {D : Nat → Nat → UInt64} {R : Nat → Nat → Option Nat} {t : Nat} {x1 : Int32} {x2 : Int32} {r9 : Int64} (h : fX11_air σ J R t x1 x2 = some r9) : Con G l yX11_air cX11_air 3 (some .long) 1 20 [vR (some t), vI x1, vI x2] (σ, I, J, D, R) (σ, I, J, D, R) (some (vL r9)) := by
  unfold fX11_air at h
  refine Con.mk (by decide +kernel) rfl (Nat.le_of_ble_eq_true rfl) ?_
  show WX11_air G l σ (σ, I, J, D, R) (some (vL r9)) (σ, I, J, D, R) 0 _ []
  refine r_iload_n (pc := 0) dX11_air_0 rfl 1 rfl ?_
  refine r_callS1 (pc := 1) (av := [vI x1]) (S := []) dX11_air_1 (kX11_isHouse rfl) mkX11_365 mwX11_isHouse rfl ⟨Nat.le_of_ble_eq_true rfl, Nat.le_of_ble_eq_true rfl⟩ (Nat.le_of_ble_eq_true rfl) ⟨Nat.le_refl _, Nat.le_refl _⟩ (fun b => b) ?_
  refine r_if_eq (pc := 4) (tgt := 31) dX11_air_4 rfl (fun c => ?_) (fun c => ?_)
  · have h := it h c
    refine r_lconst (pc := 31) dX11_air_31 kc_lconst_0 ?_
    cases h
    exact r_lret dX11_air_32
  · have h := ie h c
    refine r_iload_n (pc := 7) dX11_air_7 rfl 2 rfl ?_
    refine r_if_lt (pc := 8) (tgt := 31) dX11_air_8 rfl (fun c => ?_) (fun c => ?_)
    · have h := it h c
      refine r_lconst (pc := 31) dX11_air_31 kc_lconst_0 ?_
      cases h
      exact r_lret dX11_air_32
    · have h := ie h c
      refine r_iload_n (pc := 11) dX11_air_11 rfl 2 rfl ?_
      refine r_bipush (pc := 12) dX11_air_12 kc_bipush_10 ?_
      refine r_icmp_gt (pc := 14) (tgt := 31) dX11_air_14 rfl (fun c => ?_) (fun c => ?_)
      · have h := it h c
        refine r_lconst (pc := 31) dX11_air_31 kc_lconst_0 ?_
        cases h
        exact r_lret dX11_air_32
      · have h := ie h c
        refine r_aload_n (pc := 17) dX11_air_17 rfl 0 rfl ?_
        obtain ⟨g1, h⟩ := gd h
        obtain ⟨a2, ha2, h⟩ := ob h
        refine r_getS (pc := 18) dX11_air_18 fgX11_39 rfl g1 ha2 ?_
        obtain ⟨g3, h⟩ := gd h
        obtain ⟨a4, ha4, h⟩ := ob h
        refine r_getS (pc := 21) dX11_air_21 fgX11_395 rfl g3 ha4 ?_
        refine r_iload_n (pc := 24) dX11_air_24 rfl 1 rfl ?_
        obtain ⟨g5, h⟩ := gd h
        obtain ⟨g6, h⟩ := gd h
        refine r_aaload (pc := 25) dX11_air_25 g5 (by decide) g6 ?_
        obtain ⟨a7, ha7, h⟩ := ob h
        refine r_ref0 ha7 ?_
        refine r_iload_n (pc := 26) dX11_air_26 rfl 2 rfl ?_
        obtain ⟨g8, h⟩ := gd h
        obtain ⟨g9, h⟩ := gd h
        refine r_laload (pc := 27) dX11_air_27 g8 g9 ?_
        refine r_goto (pc := 28) (tgt := 32) dX11_air_28 rfl ?_
        cases h
        exact r_lret dX11_air_32
abbrev WX11_canShare (G : Gx) (l : Launch) (σ0 : Shp) (X1 : Stt) (rv : Option SV) : Stt → Nat → List (Nat × SV) → List SV → Prop := Wm G l yX11_canShare cX11_canShare 4 (some .boolean) (fun _ => True) (rmx 0 0 σ0 X1.1) σ0 (Qmx G σ0 X1 rv)
def fX11_canShare_l4  (σ : Shp) (J : Nat → Nat → Int64) (R : Nat → Nat → Option Nat) : Nat → (Option Nat) → (Int64) → (Int32) → Option ((Int32))
  | 0, _, _, _ => none
  | n + 1, x0, x1, x3 =>
    (x0 : Option Nat).bind fun a1 =>
    if kdx σ a1 = 11 then
    ((R a1 1) : Option Nat).bind fun a3 =>
    if kdx σ a3 = 21 then
    if (Int32.ofNat (lnx σ a3)) ≤ x3 then
      if x1 ≤ (0 : Int64) then
        some (0 : Int32)
      else
        some (1 : Int32)
    else
      if ¬ (x3 < 0 ∨ lnx σ a3 ≤ Int32.toNatClampNeg x3) then
      if (0 : Int64) ≤ (J a3 (Int32.toNatClampNeg x3)) then
        let v6 := (x1 + (J a3 (Int32.toNatClampNeg x3)))
        let v7 := x3 + (1 : Int32)
        fX11_canShare_l4 σ J R n x0 v6 v7
      else
        some (0 : Int32)
      else none
    else none
    else none
theorem wX11_canShare_l4 {G : Gx} {l : Launch} {σ : Shp} {I : Nat → Nat → Int32} {J : Nat → Nat → Int64} {D : Nat → Nat → UInt64} {R : Nat → Nat → Option Nat} {r9 : Int32} : ∀ (n : Nat) (x0 : Option Nat) (x1 : Int64) (x3 : Int32), fX11_canShare_l4 σ J R n x0 x1 x3 = some r9 → WX11_canShare G l σ (σ, I, J, D, R) (some (vI r9)) (σ, I, J, D, R) 4 [(0, vR x0), (1, vL x1), (3, vI x3)] [] := by
  intro n
  induction n with
  | zero =>
    intro x0 x1 x3 h
    have h : none = some _ := h
    cases h
  | succ n ih =>
    intro x0 x1 x3 h
    rw [fX11_canShare_l4] at h
    refine r_iload_n (pc := 4) dX11_canShare_4 rfl 2 rfl ?_
    refine r_aload_n (pc := 5) dX11_canShare_5 rfl 0 rfl ?_
    obtain ⟨a1, ha1, h⟩ := ob h
    refine r_ref0 ha1 ?_
    obtain ⟨g2, h⟩ := gd h
    obtain ⟨a3, ha3, h⟩ := ob h
    refine r_getS (pc := 6) dX11_canShare_6 fgX11_134 rfl g2 ha3 ?_
    obtain ⟨g4, h⟩ := gd h
    refine r_alen (pc := 9) dX11_canShare_9 g4 (by decide) ?_
    refine r_icmp_ge (pc := 10) (tgt := 41) dX11_canShare_10 rfl (fun c => ?_) (fun c => ?_)
    · have h := it h c
      refine r_lload_n (pc := 41) dX11_canShare_41 rfl 1 rfl ?_
      refine r_lconst (pc := 42) dX11_canShare_42 kc_lconst_0 ?_
      refine r_lcmp (pc := 43) dX11_canShare_43 ?_
      refine r_if_le (pc := 44) (tgt := 51) dX11_canShare_44 rfl (fun c => ?_) (fun c => ?_)
      · have h := it h (lgc_le.mp c)
        refine r_iconst (pc := 51) dX11_canShare_51 kc_iconst_0 ?_
        cases h
        exact r_zret dX11_canShare_52 (Or.inl rfl)
      · have h := ie h (fun q => c (lgc_le.mpr q))
        refine r_iconst (pc := 47) dX11_canShare_47 kc_iconst_1 ?_
        refine r_goto (pc := 48) (tgt := 52) dX11_canShare_48 rfl ?_
        cases h
        exact r_zret dX11_canShare_52 (Or.inr rfl)
    · have h := ie h c
      refine r_aload_n (pc := 13) dX11_canShare_13 rfl 0 rfl ?_
      refine r_ref0 ha1 ?_
      refine r_getS (pc := 14) dX11_canShare_14 fgX11_134 rfl g2 ha3 ?_
      refine r_iload_n (pc := 17) dX11_canShare_17 rfl 2 rfl ?_
      obtain ⟨g5, h⟩ := gd h
      refine r_laload (pc := 18) dX11_canShare_18 g4 g5 ?_
      refine r_lconst (pc := 19) dX11_canShare_19 kc_lconst_0 ?_
      refine r_lcmp (pc := 20) dX11_canShare_20 ?_
      refine r_ifge (pc := 21) (tgt := 26) dX11_canShare_21 rfl (fun c => ?_) (fun c => ?_)
      · have h := it h (lgc_ge.mp c)
        refine r_lload_n (pc := 26) dX11_canShare_26 rfl 1 rfl ?_
        refine r_aload_n (pc := 27) dX11_canShare_27 rfl 0 rfl ?_
        refine r_ref0 ha1 ?_
        refine r_getS (pc := 28) dX11_canShare_28 fgX11_134 rfl g2 ha3 ?_
        refine r_iload_n (pc := 31) dX11_canShare_31 rfl 2 rfl ?_
        refine r_laload (pc := 32) dX11_canShare_32 g4 g5 ?_
        refine r_ladd (pc := 33) dX11_canShare_33 ?_
        refine r_lstore_n (pc := 34) (L' := [(1, vL (x1 + (J a3 (Int32.toNatClampNeg x3)))), (0, vR x0), (3, vI x3)]) dX11_canShare_34 rfl (by decide) rfl ?_
        refine r_iinc (pc := 35) (v := (x3 + (1 : Int32))) (L' := [(3, vI (x3 + (1 : Int32))), (1, vL (x1 + (J a3 (Int32.toNatClampNeg x3)))), (0, vR x0)]) dX11_canShare_35 2 rfl (kc_inc_1 _) (by decide) rfl ?_
        refine r_goto (pc := 38) (tgt := 4) dX11_canShare_38 rfl ?_
        refine r_sub [2, 1, 0] rfl ?_
        exact ih _ _ _ h
      · have h := ie h (fun q => c (lgc_ge.mpr q))
        refine r_iconst (pc := 24) dX11_canShare_24 kc_iconst_0 ?_
        cases h
        exact r_zret dX11_canShare_25 (Or.inl rfl)
def fX11_canShare (σ : Shp) (J : Nat → Nat → Int64) (R : Nat → Nat → Option Nat) (x0 : Option Nat) : Option ((Int32)) :=
  fX11_canShare_l4 σ J R FUx x0 (0 : Int64) (0 : Int32)
theorem kX11_canShare {G : Gx} {l : Launch} {σ : Shp} {I : Nat → Nat → Int32} {J : Nat → Nat → Int64} {D : Nat → Nat → UInt64} {R : Nat → Nat → Option Nat} {x0 : Option Nat} {r9 : Int32} (h : fX11_canShare σ J R x0 = some r9) : Con G l yX11_canShare cX11_canShare 4 (some .boolean) 0 0 [vR x0] (σ, I, J, D, R) (σ, I, J, D, R) (some (vI r9)) := by
  unfold fX11_canShare at h
  refine Con.mk (by decide +kernel) rfl (Nat.le_of_ble_eq_true rfl) ?_
  show WX11_canShare G l σ (σ, I, J, D, R) (some (vI r9)) (σ, I, J, D, R) 0 _ []
  refine r_lconst (pc := 0) dX11_canShare_0 kc_lconst_0 ?_
  refine r_lstore_n (pc := 1) (L' := [(1, vL (0 : Int64)), (0, vR x0)]) dX11_canShare_1 rfl (by decide) rfl ?_
  refine r_iconst (pc := 2) dX11_canShare_2 kc_iconst_0 ?_
  refine r_istore_n (pc := 3) (L' := [(3, vI (0 : Int32)), (1, vL (0 : Int64)), (0, vR x0)]) dX11_canShare_3 rfl (by decide) rfl ?_
  refine r_sub [2, 1, 0] rfl ?_
  exact wX11_canShare_l4 _ _ _ _ h
abbrev WX11_shares (G : Gx) (l : Launch) (σ0 : Shp) (X1 : Stt) (rv : Option SV) : Stt → Nat → List (Nat × SV) → List SV → Prop := Wm G l yX11_shares cX11_shares 8 (some .int) (fun _ => True) (rmx 3 65 σ0 X1.1) σ0 (Qmx G σ0 X1 rv)
def fX11_shares_b133  (t : Nat) (σ : Shp) (I : Nat → Nat → Int32) (J : Nat → Nat → Int64) (R : Nat → Nat → Option Nat) (x2 : Int32) (x3 : Int32) (x6 : Int32) (s0 : Option Nat) : Option ((Shp) × (Nat → Nat → Int32) × (Nat → Nat → Int64) × (Nat → Nat → Option Nat) × (Int32)) :=
  if kdx σ t = 12 then
  ((R t 11) : Option Nat).bind fun a30 =>
  (s0 : Option Nat).bind fun a31 =>
  if kdx σ a31 = 11 then
  ((R a31 1) : Option Nat).bind fun a33 =>
  ((R t 10) : Option Nat).bind fun a34 =>
  (fX11_shareOut σ J (Int32.toInt64 x2) (some a30) x6 (some a33) (some a34)).bind fun J35 =>
  ((R t 1) : Option Nat).bind fun a37 =>
  if kdx σ a37 = 26 then
  if ¬ (x3 < 0 ∨ lnx σ a37 ≤ Int32.toNatClampNeg x3) then
  let R40 := u2 R a37 (Int32.toNatClampNeg x3) (some a31)
  some (σ, I, J35, R40, (1 : Int32))
  else none
  else none
  else none
  else none
theorem mX11_shares_b133 {σ : Shp} {I : Nat → Nat → Int32} {J : Nat → Nat → Int64} {R : Nat → Nat → Option Nat} {t : Nat} {σ9 : Shp} {I9 : Nat → Nat → Int32} {J9 : Nat → Nat → Int64} {R9 : Nat → Nat → Option Nat} {r9 : Int32} {x2 : Int32} {x3 : Int32} {x6 : Int32} {s0 : Option Nat} (h : fX11_shares_b133 t σ I J R x2 x3 x6 s0 = some (σ9, I9, J9, R9, r9)) : Lex σ σ9 := by
  unfold fX11_shares_b133 at h
  replace h := (gd h).2
  obtain ⟨a30, ha30, h⟩ := ob h
  obtain ⟨a31, ha31, h⟩ := ob h
  replace h := (gd h).2
  obtain ⟨a33, ha33, h⟩ := ob h
  obtain ⟨a34, ha34, h⟩ := ob h
  obtain ⟨J35, hc36, h⟩ := ob h
  obtain ⟨a37, ha37, h⟩ := ob h
  replace h := (gd h).2
  replace h := (gd h).2
  cases h
  exact ⟨Nat.le_refl _, Nat.le_refl _⟩
theorem wX11_shares_b133 {G : Gx} {l : Launch} {σ0 : Shp} {σ : Shp} {I : Nat → Nat → Int32} {J : Nat → Nat → Int64} {D : Nat → Nat → UInt64} {R : Nat → Nat → Option Nat} {t : Nat} {σ9 : Shp} {I9 : Nat → Nat → Int32} {J9 : Nat → Nat → Int64} {R9 : Nat → Nat → Option Nat} {r9 : Int32} {x2 : Int32} {x3 : Int32} {x6 : Int32} {s0 : Option Nat} (h : fX11_shares_b133 t σ I J R x2 x3 x6 s0 = some (σ9, I9, J9, R9, r9)) : WX11_shares G l σ0 (σ9, I9, J9, D, R9) (some (vI r9)) (σ, I, J, D, R) 133 [(0, vR (some t)), (2, vI x2), (3, vI x3), (6, vI x6)] [vR s0] := by
  unfold fX11_shares_b133 at h
  refine r_astore (pc := 133) (L' := [(7, vR s0), (0, vR (some t)), (2, vI x2), (3, vI x3), (6, vI x6)]) dX11_shares_133 (by decide) rfl ?_
  refine r_iload_n (pc := 135) dX11_shares_135 rfl 2 rfl ?_
  refine r_i2l (pc := 136) dX11_shares_136 ?_
  refine r_aload_n (pc := 137) dX11_shares_137 rfl 1 rfl ?_
  obtain ⟨g29, h⟩ := gd h
  obtain ⟨a30, ha30, h⟩ := ob h
  refine r_getS (pc := 138) dX11_shares_138 fgX11_73 rfl g29 ha30 ?_
  refine r_iload (pc := 141) dX11_shares_141 4 rfl ?_
  refine r_aload (pc := 143) dX11_shares_143 0 rfl ?_
  obtain ⟨a31, ha31, h⟩ := ob h
  refine r_ref0 ha31 ?_
  obtain ⟨g32, h⟩ := gd h
  obtain ⟨a33, ha33, h⟩ := ob h
  refine r_getS (pc := 145) dX11_shares_145 fgX11_134 rfl g32 ha33 ?_
  refine r_aload_n (pc := 148) dX11_shares_148 rfl 1 rfl ?_
  obtain ⟨a34, ha34, h⟩ := ob h
  refine r_getS (pc := 149) dX11_shares_149 fgX11_69 rfl g29 ha34 ?_
  obtain ⟨J35, hc36, h⟩ := ob h
  refine r_callS0 (pc := 152) (av := [vL (Int32.toInt64 x2), vR (some a30), vI x6, vR (some a33), vR (some a34)]) (S := []) dX11_shares_152 (kX11_shareOut hc36) mkX11_406 mwX11_shareOut rfl ⟨Nat.le_of_ble_eq_true rfl, Nat.le_of_ble_eq_true rfl⟩ (Nat.le_of_ble_eq_true rfl) ⟨Nat.le_refl _, Nat.le_refl _⟩ (fun b => b) ?_
  refine r_aload_n (pc := 155) dX11_shares_155 rfl 1 rfl ?_
  obtain ⟨a37, ha37, h⟩ := ob h
  refine r_getS (pc := 156) dX11_shares_156 fgX11_20 rfl g29 ha37 ?_
  refine r_iload_n (pc := 159) dX11_shares_159 rfl 3 rfl ?_
  refine r_aload (pc := 160) dX11_shares_160 0 rfl ?_
  refine r_ref0 ha31 ?_
  obtain ⟨g38, h⟩ := gd h
  obtain ⟨g39, h⟩ := gd h
  refine r_aastore (c := 10) (pc := 162) dX11_shares_162 g38 (by decide) g39 (okR_s g32) ?_
  refine r_iconst (pc := 163) dX11_shares_163 kc_iconst_1 ?_
  cases h
  exact r_iret dX11_shares_164
def fX11_shares_l98  (t : Nat) : Nat → (Shp) → (Nat → Nat → Int32) → (Nat → Nat → Int64) → (Nat → Nat → Option Nat) → (Int32) → (Int32) → (Option Nat) → (Int32) → (Int32) → Option ((Shp) × (Nat → Nat → Int32) × (Nat → Nat → Int64) × (Nat → Nat → Option Nat) × (Int32))
  | 0, _, _, _, _, _, _, _, _, _ => none
  | n + 1, σ, I, J, R, x2, x3, x4, x6, x7 =>
    if x6 ≤ x7 then
      if kdx σ t = 12 then
      (fX11_newRow σ I R t (5 : Int32) x6).bind fun (σ24, I25, R26, r27) =>
      fX11_shares_b133 t σ24 I25 J R26 x2 x3 x6 r27
      else none
    else
      if kdx σ t = 12 then
      ((R t 11) : Option Nat).bind fun a42 =>
      (x4 : Option Nat).bind fun a43 =>
      if kdx σ a43 = 11 then
      ((R a43 1) : Option Nat).bind fun a45 =>
      if kdx σ a45 = 21 then
      if ¬ (x7 < 0 ∨ lnx σ a45 ≤ Int32.toNatClampNeg x7) then
      if kdx σ a42 = 21 then
      if ¬ (x7 < 0 ∨ lnx σ a42 ≤ Int32.toNatClampNeg x7) then
      let J50 := u2 J a42 (Int32.toNatClampNeg x7) (J a45 (Int32.toNatClampNeg x7))
      let v51 := x7 + (1 : Int32)
      fX11_shares_l98 t n σ I J50 R x2 x3 x4 x6 v51
      else none
      else none
      else none
      else none
      else none
      else none
theorem mX11_shares_l98  {t : Nat} {σ9 : Shp} {I9 : Nat → Nat → Int32} {J9 : Nat → Nat → Int64} {R9 : Nat → Nat → Option Nat} {r9 : Int32} : ∀ (n : Nat) (σ : Shp) (I : Nat → Nat → Int32) (J : Nat → Nat → Int64) (R : Nat → Nat → Option Nat) (x2 : Int32) (x3 : Int32) (x4 : Option Nat) (x6 : Int32) (x7 : Int32), fX11_shares_l98 t n σ I J R x2 x3 x4 x6 x7 = some (σ9, I9, J9, R9, r9) → Lex σ σ9 := by
  intro n
  induction n with
  | zero =>
    intro σ I J R x2 x3 x4 x6 x7 h
    have h : none = some _ := h
    cases h
  | succ n ih =>
    intro σ I J R x2 x3 x4 x6 x7 h
    rw [fX11_shares_l98] at h
    rcases itc h with ⟨c, h⟩ | ⟨c, h⟩
    · replace h := (gd h).2
      obtain ⟨⟨σ24, I25, R26, r27⟩, hc28, h⟩ := ob h
      refine Lex.trans (mX11_newRow hc28) ?_
      exact mX11_shares_b133 h
    · replace h := (gd h).2
      obtain ⟨a42, ha42, h⟩ := ob h
      obtain ⟨a43, ha43, h⟩ := ob h
      replace h := (gd h).2
      obtain ⟨a45, ha45, h⟩ := ob h
      replace h := (gd h).2
      replace h := (gd h).2
      replace h := (gd h).2
      replace h := (gd h).2
      exact ih _ _ _ _ _ _ _ _ _ h
theorem wX11_shares_l98 {G : Gx} {l : Launch} {σ0 : Shp} {D : Nat → Nat → UInt64} {t : Nat} {σ9 : Shp} {I9 : Nat → Nat → Int32} {J9 : Nat → Nat → Int64} {R9 : Nat → Nat → Option Nat} {r9 : Int32} : ∀ (n : Nat) (σ : Shp) (I : Nat → Nat → Int32) (J : Nat → Nat → Int64) (R : Nat → Nat → Option Nat) (x2 : Int32) (x3 : Int32) (x4 : Option Nat) (x6 : Int32) (x7 : Int32), fX11_shares_l98 t n σ I J R x2 x3 x4 x6 x7 = some (σ9, I9, J9, R9, r9) → WX11_shares G l σ0 (σ9, I9, J9, D, R9) (some (vI r9)) (σ, I, J, D, R) 98 [(0, vR (some t)), (2, vI x2), (3, vI x3), (4, vR x4), (6, vI x6), (7, vI x7)] [] := by
  intro n
  induction n with
  | zero =>
    intro σ I J R x2 x3 x4 x6 x7 h
    have h : none = some _ := h
    cases h
  | succ n ih =>
    intro σ I J R x2 x3 x4 x6 x7 h
    rw [fX11_shares_l98] at h
    refine r_iload (pc := 98) dX11_shares_98 5 rfl ?_
    refine r_iload (pc := 100) dX11_shares_100 4 rfl ?_
    refine r_icmp_ge (pc := 102) (tgt := 126) dX11_shares_102 rfl (fun c => ?_) (fun c => ?_)
    · have h := it h c
      refine r_aload_n (pc := 126) dX11_shares_126 rfl 0 rfl ?_
      refine r_iconst (pc := 127) dX11_shares_127 kc_iconst_5 ?_
      refine r_iload (pc := 128) dX11_shares_128 4 rfl ?_
      obtain ⟨g23, h⟩ := gd h
      obtain ⟨⟨σ24, I25, R26, r27⟩, hc28, h⟩ := ob h
      refine r_callV1 (pc := 130) (av := [vI (5 : Int32), vI x6]) (S := []) dX11_shares_130 (kX11_newRow hc28) g23 rfl mkX11_91 mwX11_newRow rfl ⟨Nat.le_of_ble_eq_true rfl, Nat.le_of_ble_eq_true rfl⟩ (Nat.le_of_ble_eq_true rfl) (mX11_newRow hc28) (bdx_le (mX11_newRow hc28) (mX11_shares_b133 h)) ?_
      refine r_sub [0, 1, 2, 4] rfl ?_
      exact wX11_shares_b133 h
    · have h := ie h c
      refine r_aload_n (pc := 105) dX11_shares_105 rfl 0 rfl ?_
      obtain ⟨g41, h⟩ := gd h
      obtain ⟨a42, ha42, h⟩ := ob h
      refine r_getS (pc := 106) dX11_shares_106 fgX11_73 rfl g41 ha42 ?_
      refine r_iload (pc := 109) dX11_shares_109 5 rfl ?_
      refine r_aload (pc := 111) dX11_shares_111 3 rfl ?_
      obtain ⟨a43, ha43, h⟩ := ob h
      refine r_ref0 ha43 ?_
      obtain ⟨g44, h⟩ := gd h
      obtain ⟨a45, ha45, h⟩ := ob h
      refine r_getS (pc := 113) dX11_shares_113 fgX11_134 rfl g44 ha45 ?_
      refine r_iload (pc := 116) dX11_shares_116 5 rfl ?_
      obtain ⟨g46, h⟩ := gd h
      obtain ⟨g47, h⟩ := gd h
      refine r_laload (pc := 118) dX11_shares_118 g46 g47 ?_
      obtain ⟨g48, h⟩ := gd h
      obtain ⟨g49, h⟩ := gd h
      refine r_lastore (pc := 119) dX11_shares_119 g48 g49 ?_
      refine r_iinc (pc := 120) (v := (x7 + (1 : Int32))) (L' := [(7, vI (x7 + (1 : Int32))), (0, vR (some t)), (2, vI x2), (3, vI x3), (4, vR x4), (6, vI x6)]) dX11_shares_120 5 rfl (kc_inc_1 _) (by decide) rfl ?_
      refine r_goto (pc := 123) (tgt := 98) dX11_shares_123 rfl ?_
      refine r_sub [1, 2, 3, 4, 5, 0] rfl ?_
      exact ih _ _ _ _ _ _ _ _ _ h
def fX11_shares (σ : Shp) (I : Nat → Nat → Int32) (J : Nat → Nat → Int64) (R : Nat → Nat → Option Nat) (t : Nat) (x1 : Int32) (x2 : Int32) (x3 : Int32) : Option ((Shp) × (Nat → Nat → Int32) × (Nat → Nat → Int64) × (Nat → Nat → Option Nat) × (Int32)) :=
  if (fX11_isBin x1) = 0 then
    some (σ, I, J, R, (-2 : Int32))
  else
    if (fX11_isBin x3) = 0 then
      some (σ, I, J, R, (-2 : Int32))
    else
      if x2 < 0 then
        some (σ, I, J, R, (-2 : Int32))
      else
        if x2 ≤ (1000000000 : Int32) then
          if kdx σ t = 12 then
          ((R t 1) : Option Nat).bind fun a2 =>
          if kdx σ a2 = 26 then
          if ¬ (x1 < 0 ∨ lnx σ a2 ≤ Int32.toNatClampNeg x1) then
          let v5 := (R a2 (Int32.toNatClampNeg x1))
          (fX11_takenFault σ I v5 (4 : Int32)).bind fun r6 =>
          if r6 = 0 then
            onl v5
              (
                (fX11_fail σ I t r6).bind fun (I12, r13) =>
                some (σ, I12, J, R, r13))
              (fun a11 =>
                if kdx σ a11 = 11 then
                ((R a11 1) : Option Nat).bind fun a16 =>
                if kdx σ a16 = 21 then
                let v18 := (fXM_minI (Int32.ofNat (lnx σ a16)) (40 : Int32))
                (fX11_canShare σ J R (some a11)).bind fun r19 =>
                if r19 = 0 then
                  some (σ, I, J, R, (-3 : Int32))
                else
                  (fX11_isFull σ I t).bind fun r21 =>
                  if r21 = 0 then
                    fX11_shares_l98 t FUx σ I J R x2 x3 v5 v18 (0 : Int32)
                  else
                    some (σ, I, J, R, (-4 : Int32))
                else none
                else none)
          else
            (fX11_fail σ I t r6).bind fun (I8, r9) =>
            some (σ, I8, J, R, r9)
          else none
          else none
          else none
        else
          some (σ, I, J, R, (-2 : Int32))
theorem mX11_shares {σ : Shp} {I : Nat → Nat → Int32} {J : Nat → Nat → Int64} {R : Nat → Nat → Option Nat} {t : Nat} {x1 : Int32} {x2 : Int32} {x3 : Int32} {σ9 : Shp} {I9 : Nat → Nat → Int32} {J9 : Nat → Nat → Int64} {R9 : Nat → Nat → Option Nat} {r9 : Int32} (h : fX11_shares σ I J R t x1 x2 x3 = some (σ9, I9, J9, R9, r9)) : Lex σ σ9 := by
  unfold fX11_shares at h
  rcases itc h with ⟨c, h⟩ | ⟨c, h⟩
  · cases h
    exact ⟨Nat.le_refl _, Nat.le_refl _⟩
  · rcases itc h with ⟨c, h⟩ | ⟨c, h⟩
    · cases h
      exact ⟨Nat.le_refl _, Nat.le_refl _⟩
    · rcases itc h with ⟨c, h⟩ | ⟨c, h⟩
      · cases h
        exact ⟨Nat.le_refl _, Nat.le_refl _⟩
      · rcases itc h with ⟨c, h⟩ | ⟨c, h⟩
        · replace h := (gd h).2
          obtain ⟨a2, ha2, h⟩ := ob h
          replace h := (gd h).2
          replace h := (gd h).2
          obtain ⟨r6, hc7, h⟩ := ob h
          rcases itc h with ⟨c, h⟩ | ⟨c, h⟩
          · rcases onl_c h with ⟨ea11, h⟩ | ⟨a11, ha11, h⟩
            · obtain ⟨⟨I12, r13⟩, hc14, h⟩ := ob h
              cases h
              exact ⟨Nat.le_refl _, Nat.le_refl _⟩
            · replace h := (gd h).2
              obtain ⟨a16, ha16, h⟩ := ob h
              replace h := (gd h).2
              obtain ⟨r19, hc20, h⟩ := ob h
              rcases itc h with ⟨c, h⟩ | ⟨c, h⟩
              · cases h
                exact ⟨Nat.le_refl _, Nat.le_refl _⟩
              · obtain ⟨r21, hc22, h⟩ := ob h
                rcases itc h with ⟨c, h⟩ | ⟨c, h⟩
                · exact mX11_shares_l98 _ _ _ _ _ _ _ _ _ _ h
                · cases h
                  exact ⟨Nat.le_refl _, Nat.le_refl _⟩
          · obtain ⟨⟨I8, r9⟩, hc10, h⟩ := ob h
            cases h
            exact ⟨Nat.le_refl _, Nat.le_refl _⟩
        · cases h
          exact ⟨Nat.le_refl _, Nat.le_refl _⟩
theorem kX11_shares {G : Gx} {l : Launch} {σ : Shp} {I : Nat → Nat → Int32} {J : Nat → Nat → Int64} {D : Nat → Nat → UInt64} {R : Nat → Nat → Option Nat} {t : Nat} {x1 : Int32} {x2 : Int32} {x3 : Int32} {σ9 : Shp} {I9 : Nat → Nat → Int32} {J9 : Nat → Nat → Int64} {R9 : Nat → Nat → Option Nat} {r9 : Int32} (h : fX11_shares σ I J R t x1 x2 x3 = some (σ9, I9, J9, R9, r9)) : Con G l yX11_shares cX11_shares 8 (some .int) 3 65 [vR (some t), vI x1, vI x2, vI x3] (σ, I, J, D, R) (σ9, I9, J9, D, R9) (some (vI r9)) := by
  unfold fX11_shares at h
  refine Con.mk (by decide +kernel) rfl (Nat.le_of_ble_eq_true rfl) ?_
  show WX11_shares G l σ (σ9, I9, J9, D, R9) (some (vI r9)) (σ, I, J, D, R) 0 _ []
  refine r_iload_n (pc := 0) dX11_shares_0 rfl 1 rfl ?_
  refine r_callS1 (pc := 1) (av := [vI x1]) (S := []) dX11_shares_1 (kX11_isBin rfl) mkX11_76 mwX11_isBin rfl ⟨Nat.le_of_ble_eq_true rfl, Nat.le_of_ble_eq_true rfl⟩ (Nat.le_of_ble_eq_true rfl) ⟨Nat.le_refl _, Nat.le_refl _⟩ (fun b => b) ?_
  refine r_if_eq (pc := 4) (tgt := 25) dX11_shares_4 rfl (fun c => ?_) (fun c => ?_)
  · have h := it h c
    refine r_bipush (pc := 25) dX11_shares_25 kc_bipush_m2 ?_
    cases h
    exact r_iret dX11_shares_27
  · have h := ie h c
    refine r_iload_n (pc := 7) dX11_shares_7 rfl 3 rfl ?_
    refine r_callS1 (pc := 8) (av := [vI x3]) (S := []) dX11_shares_8 (kX11_isBin rfl) mkX11_76 mwX11_isBin rfl ⟨Nat.le_of_ble_eq_true rfl, Nat.le_of_ble_eq_true rfl⟩ (Nat.le_of_ble_eq_true rfl) ⟨Nat.le_refl _, Nat.le_refl _⟩ (fun b => b) ?_
    refine r_if_eq (pc := 11) (tgt := 25) dX11_shares_11 rfl (fun c => ?_) (fun c => ?_)
    · have h := it h c
      refine r_bipush (pc := 25) dX11_shares_25 kc_bipush_m2 ?_
      cases h
      exact r_iret dX11_shares_27
    · have h := ie h c
      refine r_iload_n (pc := 14) dX11_shares_14 rfl 2 rfl ?_
      refine r_if_lt (pc := 15) (tgt := 25) dX11_shares_15 rfl (fun c => ?_) (fun c => ?_)
      · have h := it h c
        refine r_bipush (pc := 25) dX11_shares_25 kc_bipush_m2 ?_
        cases h
        exact r_iret dX11_shares_27
      · have h := ie h c
        refine r_iload_n (pc := 18) dX11_shares_18 rfl 2 rfl ?_
        refine r_ldcw (pc := 19) dX11_shares_19 ciX11_399 ?_
        refine r_icmp_le (pc := 22) (tgt := 28) dX11_shares_22 rfl (fun c => ?_) (fun c => ?_)
        · have h := it h c
          refine r_aload_n (pc := 28) dX11_shares_28 rfl 0 rfl ?_
          obtain ⟨g1, h⟩ := gd h
          obtain ⟨a2, ha2, h⟩ := ob h
          refine r_getS (pc := 29) dX11_shares_29 fgX11_20 rfl g1 ha2 ?_
          refine r_iload_n (pc := 32) dX11_shares_32 rfl 1 rfl ?_
          obtain ⟨g3, h⟩ := gd h
          obtain ⟨g4, h⟩ := gd h
          refine r_aaload (pc := 33) dX11_shares_33 g3 (by decide) g4 ?_
          refine r_astore (pc := 34) (L' := [(4, vR (R a2 (Int32.toNatClampNeg x1))), (0, vR (some t)), (1, vI x1), (2, vI x2), (3, vI x3)]) dX11_shares_34 (by decide) rfl ?_
          refine r_aload (pc := 36) dX11_shares_36 0 rfl ?_
          refine r_iconst (pc := 38) dX11_shares_38 kc_iconst_4 ?_
          obtain ⟨r6, hc7, h⟩ := ob h
          refine r_callS1 (pc := 39) (av := [vR (R a2 (Int32.toNatClampNeg x1)), vI (4 : Int32)]) (S := []) dX11_shares_39 (kX11_takenFault hc7) mkX11_267 mwX11_takenFault rfl ⟨Nat.le_of_ble_eq_true rfl, Nat.le_of_ble_eq_true rfl⟩ (Nat.le_of_ble_eq_true rfl) ⟨Nat.le_refl _, Nat.le_refl _⟩ (fun b => b) ?_
          refine r_istore (pc := 42) (L' := [(5, vI r6), (4, vR (R a2 (Int32.toNatClampNeg x1))), (0, vR (some t)), (1, vI x1), (2, vI x2), (3, vI x3)]) dX11_shares_42 (by decide) rfl ?_
          refine r_iload (pc := 44) dX11_shares_44 0 rfl ?_
          refine r_ifne (pc := 46) (tgt := 54) dX11_shares_46 rfl (fun c => ?_) (fun c => ?_)
          · have h := ie h c
            refine r_aload_n (pc := 54) dX11_shares_54 rfl 2 rfl ?_
            refine r_iload (pc := 55) dX11_shares_55 0 rfl ?_
            obtain ⟨⟨I8, r9⟩, hc10, h⟩ := ob h
            refine r_callV1 (pc := 57) (av := [vI r6]) (S := []) dX11_shares_57 (kX11_fail hc10) g1 rfl mkX11_87 mwX11_fail rfl ⟨Nat.le_of_ble_eq_true rfl, Nat.le_of_ble_eq_true rfl⟩ (Nat.le_of_ble_eq_true rfl) ⟨Nat.le_refl _, Nat.le_refl _⟩ (fun b => b) ?_
            cases h
            exact r_iret dX11_shares_60
          · have h := it h c
            refine r_aload (pc := 49) dX11_shares_49 1 rfl ?_
            rcases onl_c h with ⟨ea11, h⟩ | ⟨a11, ha11, h⟩
            · refine r_ref0n ea11 ?_
              refine r_ifnonnull_n (pc := 51) dX11_shares_51 ?_
              refine r_aload_n (pc := 54) dX11_shares_54 rfl 2 rfl ?_
              refine r_iload (pc := 55) dX11_shares_55 0 rfl ?_
              obtain ⟨⟨I12, r13⟩, hc14, h⟩ := ob h
              refine r_callV1 (pc := 57) (av := [vI r6]) (S := []) dX11_shares_57 (kX11_fail hc14) g1 rfl mkX11_87 mwX11_fail rfl ⟨Nat.le_of_ble_eq_true rfl, Nat.le_of_ble_eq_true rfl⟩ (Nat.le_of_ble_eq_true rfl) ⟨Nat.le_refl _, Nat.le_refl _⟩ (fun b => b) ?_
              cases h
              exact r_iret dX11_shares_60
            · refine r_ref0 ha11 ?_
              refine r_ifnonnull_s (pc := 51) (tgt := 61) dX11_shares_51 rfl ?_
              refine r_aload (pc := 61) dX11_shares_61 1 rfl ?_
              refine r_ref0 ha11 ?_
              obtain ⟨g15, h⟩ := gd h
              obtain ⟨a16, ha16, h⟩ := ob h
              refine r_getS (pc := 63) dX11_shares_63 fgX11_134 rfl g15 ha16 ?_
              obtain ⟨g17, h⟩ := gd h
              refine r_alen (pc := 66) dX11_shares_66 g17 (by decide) ?_
              refine r_bipush (pc := 67) dX11_shares_67 kc_bipush_40 ?_
              refine r_callS1 (pc := 69) (av := [vI (Int32.ofNat (lnx σ a16)), vI (40 : Int32)]) (S := []) dX11_shares_69 (kXM_minI rfl) mkX11_400 mwXM_minI rfl ⟨Nat.le_of_ble_eq_true rfl, Nat.le_of_ble_eq_true rfl⟩ (Nat.le_of_ble_eq_true rfl) ⟨Nat.le_refl _, Nat.le_refl _⟩ (fun b => b) ?_
              refine r_istore (pc := 72) (L' := [(6, vI (fXM_minI (Int32.ofNat (lnx σ a16)) (40 : Int32))), (5, vI r6), (4, vR (R a2 (Int32.toNatClampNeg x1))), (0, vR (some t)), (1, vI x1), (2, vI x2), (3, vI x3)]) dX11_shares_72 (by decide) rfl ?_
              refine r_aload (pc := 74) dX11_shares_74 2 rfl ?_
              refine r_ref0 ha11 ?_
              obtain ⟨r19, hc20, h⟩ := ob h
              refine r_callS1 (pc := 76) (av := [vR (some a11)]) (S := []) dX11_shares_76 (kX11_canShare hc20) mkX11_403 mwX11_canShare rfl ⟨Nat.le_of_ble_eq_true rfl, Nat.le_of_ble_eq_true rfl⟩ (Nat.le_of_ble_eq_true rfl) ⟨Nat.le_refl _, Nat.le_refl _⟩ (fun b => b) ?_
              refine r_ifne (pc := 79) (tgt := 85) dX11_shares_79 rfl (fun c => ?_) (fun c => ?_)
              · have h := ie h c
                refine r_aload_n (pc := 85) dX11_shares_85 rfl 3 rfl ?_
                obtain ⟨r21, hc22, h⟩ := ob h
                refine r_callV1 (pc := 86) (av := []) (S := []) dX11_shares_86 (kX11_isFull hc22) g1 rfl mkX11_83 mwX11_isFull rfl ⟨Nat.le_of_ble_eq_true rfl, Nat.le_of_ble_eq_true rfl⟩ (Nat.le_of_ble_eq_true rfl) ⟨Nat.le_refl _, Nat.le_refl _⟩ (fun b => b) ?_
                refine r_if_eq (pc := 89) (tgt := 95) dX11_shares_89 rfl (fun c => ?_) (fun c => ?_)
                · have h := it h c
                  refine r_iconst (pc := 95) dX11_shares_95 kc_iconst_0 ?_
                  refine r_istore (pc := 96) (L' := [(7, vI (0 : Int32)), (6, vI (fXM_minI (Int32.ofNat (lnx σ a16)) (40 : Int32))), (5, vI r6), (4, vR (R a2 (Int32.toNatClampNeg x1))), (0, vR (some t)), (1, vI x1), (2, vI x2), (3, vI x3)]) dX11_shares_96 (by decide) rfl ?_
                  refine r_sub [4, 6, 7, 3, 1, 0] rfl ?_
                  exact wX11_shares_l98 _ _ _ _ _ _ _ _ _ _ h
                · have h := ie h c
                  refine r_bipush (pc := 92) dX11_shares_92 kc_bipush_m4 ?_
                  cases h
                  exact r_iret dX11_shares_94
              · have h := it h c
                refine r_bipush (pc := 82) dX11_shares_82 kc_bipush_m3 ?_
                cases h
                exact r_iret dX11_shares_84
        · have h := ie h c
          refine r_bipush (pc := 25) dX11_shares_25 kc_bipush_m2 ?_
          cases h
          exact r_iret dX11_shares_27
abbrev WX11_quotient (G : Gx) (l : Launch) (σ0 : Shp) (X1 : Stt) (rv : Option SV) : Stt → Nat → List (Nat × SV) → List SV → Prop := Wm G l yX11_quotient cX11_quotient 9 (some .long) (fun _ => True) (rmx 1 21 σ0 X1.1) σ0 (Qmx G σ0 X1 rv)
def fX11_quotient_b10  (σ : Shp) (t : Nat) (I : Nat → Nat → Int32) (x1 : Int32) (x2 : Int64) (x4 : Int64) (x6 : Int32) : Option ((Nat → Nat → Int32) × (Int64)) :=
  if x6 < 0 then
    some (I, (0 : Int64))
  else
    if x6 ≤ (1 : Int32) then
      if x1 = (4 : Int32) then
        let v7 := (Int64.toInt32 x2)
        let v8 := (Int64.toInt32 x4)
        if v8 = 0 then
          if kdx σ t = 12 then
          (fX11_fail σ I t (6 : Int32)).bind fun (I12, r13) =>
          some (I12, (0 : Int64))
          else none
        else
          if x6 = 0 then
            if ¬ v8 = 0 then
            some (I, (Int32.toInt64 (v7 / v8)))
            else none
          else
            if ¬ v8 = 0 then
            some (I, (Int32.toInt64 (v7 - v7 / v8 * v8)))
            else none
      else
        if x4 = (0 : Int64) then
          if kdx σ t = 12 then
          (fX11_fail σ I t (6 : Int32)).bind fun (I4, r5) =>
          some (I4, (0 : Int64))
          else none
        else
          if x6 = 0 then
            if ¬ x4 = 0 then
            some (I, (x2 / x4))
            else none
          else
            if ¬ x4 = 0 then
            some (I, (x2 - x2 / x4 * x4))
            else none
    else
      some (I, (0 : Int64))
theorem wX11_quotient_b10 {G : Gx} {l : Launch} {σ : Shp} {I : Nat → Nat → Int32} {J : Nat → Nat → Int64} {D : Nat → Nat → UInt64} {R : Nat → Nat → Option Nat} {t : Nat} {I9 : Nat → Nat → Int32} {r9 : Int64} {x1 : Int32} {x2 : Int64} {x4 : Int64} {x6 : Int32} (h : fX11_quotient_b10 σ t I x1 x2 x4 x6 = some (I9, r9)) : WX11_quotient G l σ (σ, I9, J, D, R) (some (vL r9)) (σ, I, J, D, R) 10 [(0, vR (some t)), (1, vI x1), (2, vL x2), (4, vL x4), (6, vI x6)] [] := by
  unfold fX11_quotient_b10 at h
  refine r_iload (pc := 10) dX11_quotient_10 4 rfl ?_
  refine r_if_lt (pc := 12) (tgt := 21) dX11_quotient_12 rfl (fun c => ?_) (fun c => ?_)
  · have h := it h c
    refine r_lconst (pc := 21) dX11_quotient_21 kc_lconst_0 ?_
    cases h
    exact r_lret dX11_quotient_22
  · have h := ie h c
    refine r_iload (pc := 15) dX11_quotient_15 4 rfl ?_
    refine r_iconst (pc := 17) dX11_quotient_17 kc_iconst_1 ?_
    refine r_icmp_le (pc := 18) (tgt := 23) dX11_quotient_18 rfl (fun c => ?_) (fun c => ?_)
    · have h := it h c
      refine r_iload_n (pc := 23) dX11_quotient_23 rfl 1 rfl ?_
      refine r_iconst (pc := 24) dX11_quotient_24 kc_iconst_4 ?_
      refine r_icmp_ne (pc := 25) (tgt := 72) dX11_quotient_25 rfl (fun c => ?_) (fun c => ?_)
      · have h := ie h c
        refine r_lload (pc := 72) dX11_quotient_72 3 rfl ?_
        refine r_lconst (pc := 74) dX11_quotient_74 kc_lconst_0 ?_
        refine r_lcmp (pc := 75) dX11_quotient_75 ?_
        refine r_ifne (pc := 76) (tgt := 88) dX11_quotient_76 rfl (fun c => ?_) (fun c => ?_)
        · have h := ie h (fun q => c (lgc_eq.mpr q))
          refine r_iload (pc := 88) dX11_quotient_88 4 rfl ?_
          refine r_ifne (pc := 90) (tgt := 100) dX11_quotient_90 rfl (fun c => ?_) (fun c => ?_)
          · have h := ie h c
            refine r_lload_n (pc := 100) dX11_quotient_100 rfl 2 rfl ?_
            refine r_lload (pc := 101) dX11_quotient_101 3 rfl ?_
            obtain ⟨g1, h⟩ := gd h
            refine r_lrem (pc := 103) dX11_quotient_103 g1 ?_
            cases h
            exact r_lret dX11_quotient_104
          · have h := it h c
            refine r_lload_n (pc := 93) dX11_quotient_93 rfl 2 rfl ?_
            refine r_lload (pc := 94) dX11_quotient_94 3 rfl ?_
            obtain ⟨g2, h⟩ := gd h
            refine r_ldiv (pc := 96) dX11_quotient_96 g2 ?_
            refine r_goto (pc := 97) (tgt := 104) dX11_quotient_97 rfl ?_
            cases h
            exact r_lret dX11_quotient_104
        · have h := it h (lgc_eq.mp c)
          refine r_aload_n (pc := 79) dX11_quotient_79 rfl 0 rfl ?_
          refine r_bipush (pc := 80) dX11_quotient_80 kc_bipush_6 ?_
          obtain ⟨g3, h⟩ := gd h
          obtain ⟨⟨I4, r5⟩, hc6, h⟩ := ob h
          refine r_callV1 (pc := 82) (av := [vI (6 : Int32)]) (S := []) dX11_quotient_82 (kX11_fail hc6) g3 rfl mkX11_87 mwX11_fail rfl ⟨Nat.le_of_ble_eq_true rfl, Nat.le_of_ble_eq_true rfl⟩ (Nat.le_of_ble_eq_true rfl) ⟨Nat.le_refl _, Nat.le_refl _⟩ (fun b => b) ?_
          refine r_pop (pc := 85) dX11_quotient_85 rfl ?_
          refine r_lconst (pc := 86) dX11_quotient_86 kc_lconst_0 ?_
          cases h
          exact r_lret dX11_quotient_87
      · have h := it h c
        refine r_lload_n (pc := 28) dX11_quotient_28 rfl 2 rfl ?_
        refine r_l2i (pc := 29) dX11_quotient_29 ?_
        refine r_istore (pc := 30) (L' := [(7, vI (Int64.toInt32 x2)), (0, vR (some t)), (1, vI x1), (2, vL x2), (4, vL x4), (6, vI x6)]) dX11_quotient_30 (by decide) rfl ?_
        refine r_lload (pc := 32) dX11_quotient_32 4 rfl ?_
        refine r_l2i (pc := 34) dX11_quotient_34 ?_
        refine r_istore (pc := 35) (L' := [(8, vI (Int64.toInt32 x4)), (7, vI (Int64.toInt32 x2)), (0, vR (some t)), (1, vI x1), (2, vL x2), (4, vL x4), (6, vI x6)]) dX11_quotient_35 (by decide) rfl ?_
        refine r_iload (pc := 37) dX11_quotient_37 0 rfl ?_
        refine r_ifne (pc := 39) (tgt := 51) dX11_quotient_39 rfl (fun c => ?_) (fun c => ?_)
        · have h := ie h c
          refine r_iload (pc := 51) dX11_quotient_51 6 rfl ?_
          refine r_ifne (pc := 53) (tgt := 65) dX11_quotient_53 rfl (fun c => ?_) (fun c => ?_)
          · have h := ie h c
            refine r_iload (pc := 65) dX11_quotient_65 1 rfl ?_
            refine r_iload (pc := 67) dX11_quotient_67 0 rfl ?_
            obtain ⟨g9, h⟩ := gd h
            refine r_irem (pc := 69) dX11_quotient_69 g9 ?_
            refine r_i2l (pc := 70) dX11_quotient_70 ?_
            cases h
            exact r_lret dX11_quotient_71
          · have h := it h c
            refine r_iload (pc := 56) dX11_quotient_56 1 rfl ?_
            refine r_iload (pc := 58) dX11_quotient_58 0 rfl ?_
            obtain ⟨g10, h⟩ := gd h
            refine r_idiv (pc := 60) dX11_quotient_60 g10 ?_
            refine r_i2l (pc := 61) dX11_quotient_61 ?_
            refine r_goto (pc := 62) (tgt := 71) dX11_quotient_62 rfl ?_
            cases h
            exact r_lret dX11_quotient_71
        · have h := it h c
          refine r_aload_n (pc := 42) dX11_quotient_42 rfl 2 rfl ?_
          refine r_bipush (pc := 43) dX11_quotient_43 kc_bipush_6 ?_
          obtain ⟨g11, h⟩ := gd h
          obtain ⟨⟨I12, r13⟩, hc14, h⟩ := ob h
          refine r_callV1 (pc := 45) (av := [vI (6 : Int32)]) (S := []) dX11_quotient_45 (kX11_fail hc14) g11 rfl mkX11_87 mwX11_fail rfl ⟨Nat.le_of_ble_eq_true rfl, Nat.le_of_ble_eq_true rfl⟩ (Nat.le_of_ble_eq_true rfl) ⟨Nat.le_refl _, Nat.le_refl _⟩ (fun b => b) ?_
          refine r_pop (pc := 48) dX11_quotient_48 rfl ?_
          refine r_lconst (pc := 49) dX11_quotient_49 kc_lconst_0 ?_
          cases h
          exact r_lret dX11_quotient_50
    · have h := ie h c
      refine r_lconst (pc := 21) dX11_quotient_21 kc_lconst_0 ?_
      cases h
      exact r_lret dX11_quotient_22
def fX11_quotient (σ : Shp) (I : Nat → Nat → Int32) (t : Nat) (x1 : Int32) (x2 : Int64) (x4 : Int64) (x6 : Int32) : Option ((Nat → Nat → Int32) × (Int64)) :=
  if x1 = (4 : Int32) then
    fX11_quotient_b10 σ t I x1 x2 x4 x6
  else
    if x1 = (5 : Int32) then
      fX11_quotient_b10 σ t I x1 x2 x4 x6
    else
      some (I, (0 : Int64))
theorem kX11_quotient {G : Gx} {l : Launch} {σ : Shp} {I : Nat → Nat → Int32} {J : Nat → Nat → Int64} {D : Nat → Nat → UInt64} {R : Nat → Nat → Option Nat} {t : Nat} {x1 : Int32} {x2 : Int64} {x4 : Int64} {x6 : Int32} {I9 : Nat → Nat → Int32} {r9 : Int64} (h : fX11_quotient σ I t x1 x2 x4 x6 = some (I9, r9)) : Con G l yX11_quotient cX11_quotient 9 (some .long) 1 21 [vR (some t), vI x1, vL x2, vL x4, vI x6] (σ, I, J, D, R) (σ, I9, J, D, R) (some (vL r9)) := by
  unfold fX11_quotient at h
  refine Con.mk (by decide +kernel) rfl (Nat.le_of_ble_eq_true rfl) ?_
  show WX11_quotient G l σ (σ, I9, J, D, R) (some (vL r9)) (σ, I, J, D, R) 0 _ []
  refine r_iload_n (pc := 0) dX11_quotient_0 rfl 1 rfl ?_
  refine r_iconst (pc := 1) dX11_quotient_1 kc_iconst_4 ?_
  refine r_icmp_eq (pc := 2) (tgt := 10) dX11_quotient_2 rfl (fun c => ?_) (fun c => ?_)
  · have h := it h c
    refine r_sub [0, 1, 2, 3, 4] rfl ?_
    exact wX11_quotient_b10 h
  · have h := ie h c
    refine r_iload_n (pc := 5) dX11_quotient_5 rfl 1 rfl ?_
    refine r_iconst (pc := 6) dX11_quotient_6 kc_iconst_5 ?_
    refine r_icmp_ne (pc := 7) (tgt := 21) dX11_quotient_7 rfl (fun c => ?_) (fun c => ?_)
    · have h := ie h c
      refine r_lconst (pc := 21) dX11_quotient_21 kc_lconst_0 ?_
      cases h
      exact r_lret dX11_quotient_22
    · have h := it h c
      refine r_sub [0, 1, 2, 3, 4] rfl ?_
      exact wX11_quotient_b10 h
abbrev WXN_nlzI (G : Gx) (l : Launch) (σ0 : Shp) (X1 : Stt) (rv : Option SV) : Stt → Nat → List (Nat × SV) → List SV → Prop := Wm G l yXN_nlzI cXN_nlzI 2 (some .int) (fun _ => True) (rmx 0 0 σ0 X1.1) σ0 (Qmx G σ0 X1 rv)
def fXN_nlzI_b61  (x0 : Int32) (x1 : Int32) : (Int32) :=
  if x0 < (4 : Int32) then
    (x1 - ((Int32.toUInt32 x0 >>> (Int32.toUInt32 (1 : Int32) &&& Int32.toUInt32 31)).toInt32))
  else
    let v1 := x1 + (-2 : Int32)
    let v2 := ((Int32.toUInt32 x0 >>> (Int32.toUInt32 (2 : Int32) &&& Int32.toUInt32 31)).toInt32)
    (v1 - ((Int32.toUInt32 v2 >>> (Int32.toUInt32 (1 : Int32) &&& Int32.toUInt32 31)).toInt32))
theorem wXN_nlzI_b61 {G : Gx} {l : Launch} {σ : Shp} {I : Nat → Nat → Int32} {J : Nat → Nat → Int64} {D : Nat → Nat → UInt64} {R : Nat → Nat → Option Nat} {r9 : Int32} {x0 : Int32} {x1 : Int32} (h : fXN_nlzI_b61 x0 x1 = r9) : WXN_nlzI G l σ (σ, I, J, D, R) (some (vI r9)) (σ, I, J, D, R) 61 [(0, vI x0), (1, vI x1)] [] := by
  unfold fXN_nlzI_b61 at h
  refine r_iload_n (pc := 61) dXN_nlzI_61 rfl 0 rfl ?_
  refine r_iconst (pc := 62) dXN_nlzI_62 kc_iconst_4 ?_
  refine r_icmp_lt (pc := 63) (tgt := 73) dXN_nlzI_63 rfl (fun c => ?_) (fun c => ?_)
  · have h := it h c
    refine r_iload_n (pc := 73) dXN_nlzI_73 rfl 1 rfl ?_
    refine r_iload_n (pc := 74) dXN_nlzI_74 rfl 0 rfl ?_
    refine r_iconst (pc := 75) dXN_nlzI_75 kc_iconst_1 ?_
    refine r_iushr (pc := 76) dXN_nlzI_76 ?_
    refine r_isub (pc := 77) dXN_nlzI_77 ?_
    subst h
    exact r_iret dXN_nlzI_78
  · have h := ie h c
    refine r_iinc (pc := 66) (v := (x1 + (-2 : Int32))) (L' := [(1, vI (x1 + (-2 : Int32))), (0, vI x0)]) dXN_nlzI_66 1 rfl (kc_inc_m2 _) (by decide) rfl ?_
    refine r_iload_n (pc := 69) dXN_nlzI_69 rfl 1 rfl ?_
    refine r_iconst (pc := 70) dXN_nlzI_70 kc_iconst_2 ?_
    refine r_iushr (pc := 71) dXN_nlzI_71 ?_
    refine r_istore_n (pc := 72) (L' := [(0, vI ((Int32.toUInt32 x0 >>> (Int32.toUInt32 (2 : Int32) &&& Int32.toUInt32 31)).toInt32)), (1, vI (x1 + (-2 : Int32)))]) dXN_nlzI_72 rfl (by decide) rfl ?_
    refine r_iload_n (pc := 73) dXN_nlzI_73 rfl 1 rfl ?_
    refine r_iload_n (pc := 74) dXN_nlzI_74 rfl 0 rfl ?_
    refine r_iconst (pc := 75) dXN_nlzI_75 kc_iconst_1 ?_
    refine r_iushr (pc := 76) dXN_nlzI_76 ?_
    refine r_isub (pc := 77) dXN_nlzI_77 ?_
    subst h
    exact r_iret dXN_nlzI_78
def fXN_nlzI_b33  (x0 : Int32) (x1 : Int32) : (Int32) :=
  if x0 < (256 : Int32) then
    if x0 < (16 : Int32) then
      fXN_nlzI_b61 x0 x1
    else
      let v3 := x1 + (-4 : Int32)
      let v4 := ((Int32.toUInt32 x0 >>> (Int32.toUInt32 (4 : Int32) &&& Int32.toUInt32 31)).toInt32)
      fXN_nlzI_b61 v4 v3
  else
    let v5 := x1 + (-8 : Int32)
    let v6 := ((Int32.toUInt32 x0 >>> (Int32.toUInt32 (8 : Int32) &&& Int32.toUInt32 31)).toInt32)
    if v6 < (16 : Int32) then
      fXN_nlzI_b61 v6 v5
    else
      let v7 := v5 + (-4 : Int32)
      let v8 := ((Int32.toUInt32 v6 >>> (Int32.toUInt32 (4 : Int32) &&& Int32.toUInt32 31)).toInt32)
      fXN_nlzI_b61 v8 v7
theorem wXN_nlzI_b33 {G : Gx} {l : Launch} {σ : Shp} {I : Nat → Nat → Int32} {J : Nat → Nat → Int64} {D : Nat → Nat → UInt64} {R : Nat → Nat → Option Nat} {r9 : Int32} {x0 : Int32} {x1 : Int32} (h : fXN_nlzI_b33 x0 x1 = r9) : WXN_nlzI G l σ (σ, I, J, D, R) (some (vI r9)) (σ, I, J, D, R) 33 [(0, vI x0), (1, vI x1)] [] := by
  unfold fXN_nlzI_b33 at h
  refine r_iload_n (pc := 33) dXN_nlzI_33 rfl 0 rfl ?_
  refine r_sipush (pc := 34) dXN_nlzI_34 kc_sipush_256 ?_
  refine r_icmp_lt (pc := 37) (tgt := 48) dXN_nlzI_37 rfl (fun c => ?_) (fun c => ?_)
  · have h := it h c
    refine r_iload_n (pc := 48) dXN_nlzI_48 rfl 0 rfl ?_
    refine r_bipush (pc := 49) dXN_nlzI_49 kc_bipush_16 ?_
    refine r_icmp_lt (pc := 51) (tgt := 61) dXN_nlzI_51 rfl (fun c => ?_) (fun c => ?_)
    · have h := it h c
      refine r_sub [0, 1] rfl ?_
      exact wXN_nlzI_b61 h
    · have h := ie h c
      refine r_iinc (pc := 54) (v := (x1 + (-4 : Int32))) (L' := [(1, vI (x1 + (-4 : Int32))), (0, vI x0)]) dXN_nlzI_54 1 rfl (kc_inc_m4 _) (by decide) rfl ?_
      refine r_iload_n (pc := 57) dXN_nlzI_57 rfl 1 rfl ?_
      refine r_iconst (pc := 58) dXN_nlzI_58 kc_iconst_4 ?_
      refine r_iushr (pc := 59) dXN_nlzI_59 ?_
      refine r_istore_n (pc := 60) (L' := [(0, vI ((Int32.toUInt32 x0 >>> (Int32.toUInt32 (4 : Int32) &&& Int32.toUInt32 31)).toInt32)), (1, vI (x1 + (-4 : Int32)))]) dXN_nlzI_60 rfl (by decide) rfl ?_
      refine r_sub [0, 1] rfl ?_
      exact wXN_nlzI_b61 h
  · have h := ie h c
    refine r_iinc (pc := 40) (v := (x1 + (-8 : Int32))) (L' := [(1, vI (x1 + (-8 : Int32))), (0, vI x0)]) dXN_nlzI_40 1 rfl (kc_inc_m8 _) (by decide) rfl ?_
    refine r_iload_n (pc := 43) dXN_nlzI_43 rfl 1 rfl ?_
    refine r_bipush (pc := 44) dXN_nlzI_44 kc_bipush_8 ?_
    refine r_iushr (pc := 46) dXN_nlzI_46 ?_
    refine r_istore_n (pc := 47) (L' := [(0, vI ((Int32.toUInt32 x0 >>> (Int32.toUInt32 (8 : Int32) &&& Int32.toUInt32 31)).toInt32)), (1, vI (x1 + (-8 : Int32)))]) dXN_nlzI_47 rfl (by decide) rfl ?_
    refine r_iload_n (pc := 48) dXN_nlzI_48 rfl 0 rfl ?_
    refine r_bipush (pc := 49) dXN_nlzI_49 kc_bipush_16 ?_
    refine r_icmp_lt (pc := 51) (tgt := 61) dXN_nlzI_51 rfl (fun c => ?_) (fun c => ?_)
    · have h := it h c
      refine r_sub [0, 1] rfl ?_
      exact wXN_nlzI_b61 h
    · have h := ie h c
      refine r_iinc (pc := 54) (v := ((x1 + (-8 : Int32)) + (-4 : Int32))) (L' := [(1, vI ((x1 + (-8 : Int32)) + (-4 : Int32))), (0, vI ((Int32.toUInt32 x0 >>> (Int32.toUInt32 (8 : Int32) &&& Int32.toUInt32 31)).toInt32))]) dXN_nlzI_54 1 rfl (kc_inc_m4 _) (by decide) rfl ?_
      refine r_iload_n (pc := 57) dXN_nlzI_57 rfl 1 rfl ?_
      refine r_iconst (pc := 58) dXN_nlzI_58 kc_iconst_4 ?_
      refine r_iushr (pc := 59) dXN_nlzI_59 ?_
      refine r_istore_n (pc := 60) (L' := [(0, vI ((Int32.toUInt32 ((Int32.toUInt32 x0 >>> (Int32.toUInt32 (8 : Int32) &&& Int32.toUInt32 31)).toInt32) >>> (Int32.toUInt32 (4 : Int32) &&& Int32.toUInt32 31)).toInt32)), (1, vI ((x1 + (-8 : Int32)) + (-4 : Int32)))]) dXN_nlzI_60 rfl (by decide) rfl ?_
      refine r_sub [0, 1] rfl ?_
      exact wXN_nlzI_b61 h
def fXN_nlzI  (x0 : Int32) : (Int32) :=
  if 0 < x0 then
    if x0 < (65536 : Int32) then
      fXN_nlzI_b33 x0 (31 : Int32)
    else
      let v9 := (31 : Int32) + (-16 : Int32)
      let v10 := ((Int32.toUInt32 x0 >>> (Int32.toUInt32 (16 : Int32) &&& Int32.toUInt32 31)).toInt32)
      fXN_nlzI_b33 v10 v9
  else
    if x0 = 0 then
      (32 : Int32)
    else
      (0 : Int32)
theorem kXN_nlzI {G : Gx} {l : Launch} {σ : Shp} {I : Nat → Nat → Int32} {J : Nat → Nat → Int64} {D : Nat → Nat → UInt64} {R : Nat → Nat → Option Nat} {x0 : Int32} {r9 : Int32} (h : fXN_nlzI x0 = r9) : Con G l yXN_nlzI cXN_nlzI 2 (some .int) 0 0 [vI x0] (σ, I, J, D, R) (σ, I, J, D, R) (some (vI r9)) := by
  unfold fXN_nlzI at h
  refine Con.mkF (by decide +kernel) rfl (Nat.le_of_ble_eq_true rfl) ?_
  show WXN_nlzI G l σ (σ, I, J, D, R) (some (vI r9)) (σ, I, J, D, R) 0 _ []
  refine r_iload_n (pc := 0) dXN_nlzI_0 rfl 0 rfl ?_
  refine r_ifgt (pc := 1) (tgt := 15) dXN_nlzI_1 rfl (fun c => ?_) (fun c => ?_)
  · have h := it h c
    refine r_bipush (pc := 15) dXN_nlzI_15 kc_bipush_31 ?_
    refine r_istore_n (pc := 17) (L' := [(1, vI (31 : Int32)), (0, vI x0)]) dXN_nlzI_17 rfl (by decide) rfl ?_
    refine r_iload_n (pc := 18) dXN_nlzI_18 rfl 1 rfl ?_
    refine r_ldcw (pc := 19) dXN_nlzI_19 ciXN_264 ?_
    refine r_icmp_lt (pc := 22) (tgt := 33) dXN_nlzI_22 rfl (fun c => ?_) (fun c => ?_)
    · have h := it h c
      refine r_sub [1, 0] rfl ?_
      exact wXN_nlzI_b33 h
    · have h := ie h c
      refine r_iinc (pc := 25) (v := ((31 : Int32) + (-16 : Int32))) (L' := [(1, vI ((31 : Int32) + (-16 : Int32))), (0, vI x0)]) dXN_nlzI_25 0 rfl (kc_inc_m16 _) (by decide) rfl ?_
      refine r_iload_n (pc := 28) dXN_nlzI_28 rfl 1 rfl ?_
      refine r_bipush (pc := 29) dXN_nlzI_29 kc_bipush_16 ?_
      refine r_iushr (pc := 31) dXN_nlzI_31 ?_
      refine r_istore_n (pc := 32) (L' := [(0, vI ((Int32.toUInt32 x0 >>> (Int32.toUInt32 (16 : Int32) &&& Int32.toUInt32 31)).toInt32)), (1, vI ((31 : Int32) + (-16 : Int32)))]) dXN_nlzI_32 rfl (by decide) rfl ?_
      refine r_sub [0, 1] rfl ?_
      exact wXN_nlzI_b33 h
  · have h := ie h c
    refine r_iload_n (pc := 4) dXN_nlzI_4 rfl 0 rfl ?_
    refine r_ifne (pc := 5) (tgt := 13) dXN_nlzI_5 rfl (fun c => ?_) (fun c => ?_)
    · have h := ie h c
      refine r_iconst (pc := 13) dXN_nlzI_13 kc_iconst_0 ?_
      subst h
      exact r_iret dXN_nlzI_14
    · have h := it h c
      refine r_bipush (pc := 8) dXN_nlzI_8 kc_bipush_32 ?_
      refine r_goto (pc := 10) (tgt := 14) dXN_nlzI_10 rfl ?_
      subst h
      exact r_iret dXN_nlzI_14
abbrev WXN_nlzL (G : Gx) (l : Launch) (σ0 : Shp) (X1 : Stt) (rv : Option SV) : Stt → Nat → List (Nat × SV) → List SV → Prop := Wm G l yXN_nlzL cXN_nlzL 3 (some .int) (fun _ => True) (rmx 1 21 σ0 X1.1) σ0 (Qmx G σ0 X1 rv)
def fXN_nlzL  (x0 : Int64) : (Int32) :=
  let v1 := (Int64.toInt32 ((Int64.toUInt64 x0 >>> ((Int32.toInt64 (32 : Int32)).toUInt64 &&& Int64.toUInt64 63)).toInt64))
  if v1 = 0 then
    ((32 : Int32) + (fXN_nlzI (Int64.toInt32 x0)))
  else
    (fXN_nlzI v1)
theorem kXN_nlzL {G : Gx} {l : Launch} {σ : Shp} {I : Nat → Nat → Int32} {J : Nat → Nat → Int64} {D : Nat → Nat → UInt64} {R : Nat → Nat → Option Nat} {x0 : Int64} {r9 : Int32} (h : fXN_nlzL x0 = r9) : Con G l yXN_nlzL cXN_nlzL 3 (some .int) 1 21 [vL x0] (σ, I, J, D, R) (σ, I, J, D, R) (some (vI r9)) := by
  unfold fXN_nlzL at h
  refine Con.mkF (by decide +kernel) rfl (Nat.le_of_ble_eq_true rfl) ?_
  show WXN_nlzL G l σ (σ, I, J, D, R) (some (vI r9)) (σ, I, J, D, R) 0 _ []
  refine r_lload_n (pc := 0) dXN_nlzL_0 rfl 0 rfl ?_
  refine r_bipush (pc := 1) dXN_nlzL_1 kc_bipush_32 ?_
  refine r_lushr (pc := 3) dXN_nlzL_3 ?_
  refine r_l2i (pc := 4) dXN_nlzL_4 ?_
  refine r_istore_n (pc := 5) (L' := [(2, vI (Int64.toInt32 ((Int64.toUInt64 x0 >>> ((Int32.toInt64 (32 : Int32)).toUInt64 &&& Int64.toUInt64 63)).toInt64))), (0, vL x0)]) dXN_nlzL_5 rfl (by decide) rfl ?_
  refine r_iload_n (pc := 6) dXN_nlzL_6 rfl 0 rfl ?_
  refine r_ifne (pc := 7) (tgt := 21) dXN_nlzL_7 rfl (fun c => ?_) (fun c => ?_)
  · have h := ie h c
    refine r_iload_n (pc := 21) dXN_nlzL_21 rfl 0 rfl ?_
    refine r_callS1 (pc := 22) (av := [vI (Int64.toInt32 ((Int64.toUInt64 x0 >>> ((Int32.toInt64 (32 : Int32)).toUInt64 &&& Int64.toUInt64 63)).toInt64))]) (S := []) dXN_nlzL_22 (kXN_nlzI rfl) mkXN_308 mwXN_nlzI rfl ⟨Nat.le_of_ble_eq_true rfl, Nat.le_of_ble_eq_true rfl⟩ (Nat.le_of_ble_eq_true rfl) ⟨Nat.le_refl _, Nat.le_refl _⟩ (fun b => b) ?_
    subst h
    exact r_iret dXN_nlzL_25
  · have h := it h c
    refine r_bipush (pc := 10) dXN_nlzL_10 kc_bipush_32 ?_
    refine r_lload_n (pc := 12) dXN_nlzL_12 rfl 1 rfl ?_
    refine r_l2i (pc := 13) dXN_nlzL_13 ?_
    refine r_callS1 (pc := 14) (av := [vI (Int64.toInt32 x0)]) (S := [vI (32 : Int32)]) dXN_nlzL_14 (kXN_nlzI rfl) mkXN_308 mwXN_nlzI rfl ⟨Nat.le_of_ble_eq_true rfl, Nat.le_of_ble_eq_true rfl⟩ (Nat.le_of_ble_eq_true rfl) ⟨Nat.le_refl _, Nat.le_refl _⟩ (fun b => b) ?_
    refine r_iadd (pc := 17) dXN_nlzL_17 ?_
    refine r_goto (pc := 18) (tgt := 25) dXN_nlzL_18 rfl ?_
    subst h
    exact r_iret dXN_nlzL_25
abbrev WX11_widened (G : Gx) (l : Launch) (σ0 : Shp) (X1 : Stt) (rv : Option SV) : Stt → Nat → List (Nat × SV) → List SV → Prop := Wm G l yX11_widened cX11_widened 9 (some .long) (fun _ => True) (rmx 2 43 σ0 X1.1) σ0 (Qmx G σ0 X1 rv)
def fX11_widened  (x0 : Int64) : (Int64) :=
  let v1 := (x0 &&& (-9223372036854775808 : Int64))
  let v2 := ((x0 >>> (Int32.toInt64 (23 : Int32) &&& 63)) &&& (255 : Int64))
  let v3 := (x0 &&& (8388607 : Int64))
  if v2 = (255 : Int64) then
    if v3 = (0 : Int64) then
      (v1 ||| (9218868437227405312 : Int64))
    else
      (9221120237041090560 : Int64)
  else
    if v2 = (0 : Int64) then
      if v3 = (0 : Int64) then
        v1
      else
        let v4 := ((63 : Int32) - (fXN_nlzL v3))
        ((v1 ||| (((Int32.toInt64 v4) + (874 : Int64)) <<< (Int32.toInt64 (52 : Int32) &&& 63))) ||| ((v3 <<< (Int32.toInt64 ((52 : Int32) - v4) &&& 63)) &&& (4503599627370495 : Int64)))
    else
      ((v1 ||| ((v2 + (896 : Int64)) <<< (Int32.toInt64 (52 : Int32) &&& 63))) ||| (v3 <<< (Int32.toInt64 (29 : Int32) &&& 63)))
theorem kX11_widened {G : Gx} {l : Launch} {σ : Shp} {I : Nat → Nat → Int32} {J : Nat → Nat → Int64} {D : Nat → Nat → UInt64} {R : Nat → Nat → Option Nat} {x0 : Int64} {r9 : Int64} (h : fX11_widened x0 = r9) : Con G l yX11_widened cX11_widened 9 (some .long) 2 43 [vL x0] (σ, I, J, D, R) (σ, I, J, D, R) (some (vL r9)) := by
  unfold fX11_widened at h
  refine Con.mk (by decide +kernel) rfl (Nat.le_of_ble_eq_true rfl) ?_
  show WX11_widened G l σ (σ, I, J, D, R) (some (vL r9)) (σ, I, J, D, R) 0 _ []
  refine r_lload_n (pc := 0) dX11_widened_0 rfl 0 rfl ?_
  refine r_ldc2 (pc := 1) dX11_widened_1 clX11_540 ?_
  refine r_land (pc := 4) dX11_widened_4 ?_
  refine r_lstore_n (pc := 5) (L' := [(2, vL (x0 &&& (-9223372036854775808 : Int64))), (0, vL x0)]) dX11_widened_5 rfl (by decide) rfl ?_
  refine r_lload_n (pc := 6) dX11_widened_6 rfl 1 rfl ?_
  refine r_bipush (pc := 7) dX11_widened_7 kc_bipush_23 ?_
  refine r_lshr (pc := 9) dX11_widened_9 ?_
  refine r_ldc2 (pc := 10) dX11_widened_10 clX11_542 ?_
  refine r_land (pc := 13) dX11_widened_13 ?_
  refine r_lstore (pc := 14) (L' := [(4, vL ((x0 >>> (Int32.toInt64 (23 : Int32) &&& 63)) &&& (255 : Int64))), (2, vL (x0 &&& (-9223372036854775808 : Int64))), (0, vL x0)]) dX11_widened_14 (by decide) rfl ?_
  refine r_lload_n (pc := 16) dX11_widened_16 rfl 2 rfl ?_
  refine r_ldc2 (pc := 17) dX11_widened_17 clX11_544 ?_
  refine r_land (pc := 20) dX11_widened_20 ?_
  refine r_lstore (pc := 21) (L' := [(6, vL (x0 &&& (8388607 : Int64))), (4, vL ((x0 >>> (Int32.toInt64 (23 : Int32) &&& 63)) &&& (255 : Int64))), (2, vL (x0 &&& (-9223372036854775808 : Int64))), (0, vL x0)]) dX11_widened_21 (by decide) rfl ?_
  refine r_lload (pc := 23) dX11_widened_23 1 rfl ?_
  refine r_ldc2 (pc := 25) dX11_widened_25 clX11_542 ?_
  refine r_lcmp (pc := 28) dX11_widened_28 ?_
  refine r_ifne (pc := 29) (tgt := 51) dX11_widened_29 rfl (fun c => ?_) (fun c => ?_)
  · have h := ie h (fun q => c (lgc_eq.mpr q))
    refine r_lload (pc := 51) dX11_widened_51 1 rfl ?_
    refine r_lconst (pc := 53) dX11_widened_53 kc_lconst_0 ?_
    refine r_lcmp (pc := 54) dX11_widened_54 ?_
    refine r_if_eq (pc := 55) (tgt := 76) dX11_widened_55 rfl (fun c => ?_) (fun c => ?_)
    · have h := it h (lgc_eq.mp c)
      refine r_lload (pc := 76) dX11_widened_76 0 rfl ?_
      refine r_lconst (pc := 78) dX11_widened_78 kc_lconst_0 ?_
      refine r_lcmp (pc := 79) dX11_widened_79 ?_
      refine r_ifne (pc := 80) (tgt := 85) dX11_widened_80 rfl (fun c => ?_) (fun c => ?_)
      · have h := ie h (fun q => c (lgc_eq.mpr q))
        refine r_bipush (pc := 85) dX11_widened_85 kc_bipush_63 ?_
        refine r_lload (pc := 87) dX11_widened_87 0 rfl ?_
        refine r_callS1 (pc := 89) (av := [vL (x0 &&& (8388607 : Int64))]) (S := [vI (63 : Int32)]) dX11_widened_89 (kXN_nlzL rfl) mkX11_548 mwXN_nlzL rfl ⟨Nat.le_of_ble_eq_true rfl, Nat.le_of_ble_eq_true rfl⟩ (Nat.le_of_ble_eq_true rfl) ⟨Nat.le_refl _, Nat.le_refl _⟩ (fun b => b) ?_
        refine r_isub (pc := 92) dX11_widened_92 ?_
        refine r_istore (pc := 93) (L' := [(8, vI ((63 : Int32) - (fXN_nlzL (x0 &&& (8388607 : Int64))))), (6, vL (x0 &&& (8388607 : Int64))), (4, vL ((x0 >>> (Int32.toInt64 (23 : Int32) &&& 63)) &&& (255 : Int64))), (2, vL (x0 &&& (-9223372036854775808 : Int64))), (0, vL x0)]) dX11_widened_93 (by decide) rfl ?_
        refine r_lload_n (pc := 95) dX11_widened_95 rfl 3 rfl ?_
        refine r_iload (pc := 96) dX11_widened_96 0 rfl ?_
        refine r_i2l (pc := 98) dX11_widened_98 ?_
        refine r_ldc2 (pc := 99) dX11_widened_99 clX11_554 ?_
        refine r_ladd (pc := 102) dX11_widened_102 ?_
        refine r_bipush (pc := 103) dX11_widened_103 kc_bipush_52 ?_
        refine r_lshl (pc := 105) dX11_widened_105 ?_
        refine r_lor (pc := 106) dX11_widened_106 ?_
        refine r_lload (pc := 107) dX11_widened_107 1 rfl ?_
        refine r_bipush (pc := 109) dX11_widened_109 kc_bipush_52 ?_
        refine r_iload (pc := 111) dX11_widened_111 0 rfl ?_
        refine r_isub (pc := 113) dX11_widened_113 ?_
        refine r_lshl (pc := 114) dX11_widened_114 ?_
        refine r_ldc2 (pc := 115) dX11_widened_115 clX11_556 ?_
        refine r_land (pc := 118) dX11_widened_118 ?_
        refine r_lor (pc := 119) dX11_widened_119 ?_
        subst h
        exact r_lret dX11_widened_120
      · have h := it h (lgc_eq.mp c)
        refine r_lload_n (pc := 83) dX11_widened_83 rfl 2 rfl ?_
        subst h
        exact r_lret dX11_widened_84
    · have h := ie h (fun q => c (lgc_eq.mpr q))
      refine r_lload_n (pc := 58) dX11_widened_58 rfl 2 rfl ?_
      refine r_lload (pc := 59) dX11_widened_59 1 rfl ?_
      refine r_ldc2 (pc := 61) dX11_widened_61 clX11_546 ?_
      refine r_ladd (pc := 64) dX11_widened_64 ?_
      refine r_bipush (pc := 65) dX11_widened_65 kc_bipush_52 ?_
      refine r_lshl (pc := 67) dX11_widened_67 ?_
      refine r_lor (pc := 68) dX11_widened_68 ?_
      refine r_lload (pc := 69) dX11_widened_69 0 rfl ?_
      refine r_bipush (pc := 71) dX11_widened_71 kc_bipush_29 ?_
      refine r_lshl (pc := 73) dX11_widened_73 ?_
      refine r_lor (pc := 74) dX11_widened_74 ?_
      subst h
      exact r_lret dX11_widened_75
  · have h := it h (lgc_eq.mp c)
    refine r_lload (pc := 32) dX11_widened_32 0 rfl ?_
    refine r_lconst (pc := 34) dX11_widened_34 kc_lconst_0 ?_
    refine r_lcmp (pc := 35) dX11_widened_35 ?_
    refine r_ifne (pc := 36) (tgt := 47) dX11_widened_36 rfl (fun c => ?_) (fun c => ?_)
    · have h := ie h (fun q => c (lgc_eq.mpr q))
      refine r_ldc2 (pc := 47) dX11_widened_47 clX11_420 ?_
      subst h
      exact r_lret dX11_widened_50
    · have h := it h (lgc_eq.mp c)
      refine r_lload_n (pc := 39) dX11_widened_39 rfl 2 rfl ?_
      refine r_ldc2 (pc := 40) dX11_widened_40 clX11_534 ?_
      refine r_lor (pc := 43) dX11_widened_43 ?_
      refine r_goto (pc := 44) (tgt := 50) dX11_widened_44 rfl ?_
      subst h
      exact r_lret dX11_widened_50
abbrev WX11_doubleBits (G : Gx) (l : Launch) (σ0 : Shp) (X1 : Stt) (rv : Option SV) : Stt → Nat → List (Nat × SV) → List SV → Prop := Wm G l yX11_doubleBits cX11_doubleBits 3 (some .long) (fun _ => True) (rmx 3 71 σ0 X1.1) σ0 (Qmx G σ0 X1 rv)
def fX11_doubleBits  (x0 : Int32) (x1 : Int64) : (Int64) :=
  if x0 = (6 : Int32) then
    (fX11_widened x1)
  else
    x1
theorem kX11_doubleBits {G : Gx} {l : Launch} {σ : Shp} {I : Nat → Nat → Int32} {J : Nat → Nat → Int64} {D : Nat → Nat → UInt64} {R : Nat → Nat → Option Nat} {x0 : Int32} {x1 : Int64} {r9 : Int64} (h : fX11_doubleBits x0 x1 = r9) : Con G l yX11_doubleBits cX11_doubleBits 3 (some .long) 3 71 [vI x0, vL x1] (σ, I, J, D, R) (σ, I, J, D, R) (some (vL r9)) := by
  unfold fX11_doubleBits at h
  refine Con.mk (by decide +kernel) rfl (Nat.le_of_ble_eq_true rfl) ?_
  show WX11_doubleBits G l σ (σ, I, J, D, R) (some (vL r9)) (σ, I, J, D, R) 0 _ []
  refine r_iload_n (pc := 0) dX11_doubleBits_0 rfl 0 rfl ?_
  refine r_bipush (pc := 1) dX11_doubleBits_1 kc_bipush_6 ?_
  refine r_icmp_ne (pc := 3) (tgt := 13) dX11_doubleBits_3 rfl (fun c => ?_) (fun c => ?_)
  · have h := ie h c
    refine r_lload_n (pc := 13) dX11_doubleBits_13 rfl 1 rfl ?_
    subst h
    exact r_lret dX11_doubleBits_14
  · have h := it h c
    refine r_lload_n (pc := 6) dX11_doubleBits_6 rfl 1 rfl ?_
    refine r_callS1 (pc := 7) (av := [vL x1]) (S := []) dX11_doubleBits_7 (kX11_widened rfl) mkX11_536 mwX11_widened rfl ⟨Nat.le_of_ble_eq_true rfl, Nat.le_of_ble_eq_true rfl⟩ (Nat.le_of_ble_eq_true rfl) ⟨Nat.le_refl _, Nat.le_refl _⟩ (fun b => b) ?_
    refine r_goto (pc := 10) (tgt := 14) dX11_doubleBits_10 rfl ?_
    subst h
    exact r_lret dX11_doubleBits_14
abbrev WX11_flagsOf (G : Gx) (l : Launch) (σ0 : Shp) (X1 : Stt) (rv : Option SV) : Stt → Nat → List (Nat × SV) → List SV → Prop := Wm G l yX11_flagsOf cX11_flagsOf 8 (some .int) (fun _ => True) (rmx 1 21 σ0 X1.1) σ0 (Qmx G σ0 X1 rv)
def fX11_flagsOf_b51  (x4 : Int64) (s0 : Int64) : (Int32) :=
  if x4 = s0 then
    (26 : Int32)
  else
    if s0 ≤ x4 then
      (44 : Int32)
    else
      (35 : Int32)
theorem wX11_flagsOf_b51 {G : Gx} {l : Launch} {σ : Shp} {I : Nat → Nat → Int32} {J : Nat → Nat → Int64} {D : Nat → Nat → UInt64} {R : Nat → Nat → Option Nat} {r9 : Int32} {x4 : Int64} {s0 : Int64} (h : fX11_flagsOf_b51 x4 s0 = r9) : WX11_flagsOf G l σ (σ, I, J, D, R) (some (vI r9)) (σ, I, J, D, R) 51 [(4, vL x4)] [vL s0] := by
  unfold fX11_flagsOf_b51 at h
  refine r_lstore (pc := 51) (L' := [(6, vL s0), (4, vL x4)]) dX11_flagsOf_51 (by decide) rfl ?_
  refine r_lload (pc := 53) dX11_flagsOf_53 1 rfl ?_
  refine r_lload (pc := 55) dX11_flagsOf_55 0 rfl ?_
  refine r_lcmp (pc := 57) dX11_flagsOf_57 ?_
  refine r_ifne (pc := 58) (tgt := 64) dX11_flagsOf_58 rfl (fun c => ?_) (fun c => ?_)
  · have h := ie h (fun q => c (lgc_eq.mpr q))
    refine r_lload (pc := 64) dX11_flagsOf_64 1 rfl ?_
    refine r_lload (pc := 66) dX11_flagsOf_66 0 rfl ?_
    refine r_lcmp (pc := 68) dX11_flagsOf_68 ?_
    refine r_ifge (pc := 69) (tgt := 77) dX11_flagsOf_69 rfl (fun c => ?_) (fun c => ?_)
    · have h := it h (lgc_ge.mp c)
      refine r_bipush (pc := 77) dX11_flagsOf_77 kc_bipush_44 ?_
      subst h
      exact r_iret dX11_flagsOf_79
    · have h := ie h (fun q => c (lgc_ge.mpr q))
      refine r_bipush (pc := 72) dX11_flagsOf_72 kc_bipush_35 ?_
      refine r_goto (pc := 74) (tgt := 79) dX11_flagsOf_74 rfl ?_
      subst h
      exact r_iret dX11_flagsOf_79
  · have h := it h (lgc_eq.mp c)
    refine r_bipush (pc := 61) dX11_flagsOf_61 kc_bipush_26 ?_
    subst h
    exact r_iret dX11_flagsOf_63
def fX11_flagsOf  (x0 : Int64) (x2 : Int64) : (Int32) :=
  if (fX11_isNumber x0) = 0 then
    (32 : Int32)
  else
    if (fX11_isNumber x2) = 0 then
      (32 : Int32)
    else
      if x0 = (-9223372036854775808 : Int64) then
        if x2 = (-9223372036854775808 : Int64) then
          fX11_flagsOf_b51 (0 : Int64) (0 : Int64)
        else
          fX11_flagsOf_b51 (0 : Int64) (fX11_orderKey x2)
      else
        let v1 := (fX11_orderKey x0)
        if x2 = (-9223372036854775808 : Int64) then
          fX11_flagsOf_b51 v1 (0 : Int64)
        else
          fX11_flagsOf_b51 v1 (fX11_orderKey x2)
theorem kX11_flagsOf {G : Gx} {l : Launch} {σ : Shp} {I : Nat → Nat → Int32} {J : Nat → Nat → Int64} {D : Nat → Nat → UInt64} {R : Nat → Nat → Option Nat} {x0 : Int64} {x2 : Int64} {r9 : Int32} (h : fX11_flagsOf x0 x2 = r9) : Con G l yX11_flagsOf cX11_flagsOf 8 (some .int) 1 21 [vL x0, vL x2] (σ, I, J, D, R) (σ, I, J, D, R) (some (vI r9)) := by
  unfold fX11_flagsOf at h
  refine Con.mk (by decide +kernel) rfl (Nat.le_of_ble_eq_true rfl) ?_
  show WX11_flagsOf G l σ (σ, I, J, D, R) (some (vI r9)) (σ, I, J, D, R) 0 _ []
  refine r_lload_n (pc := 0) dX11_flagsOf_0 rfl 0 rfl ?_
  refine r_callS1 (pc := 1) (av := [vL x0]) (S := []) dX11_flagsOf_1 (kX11_isNumber rfl) mkX11_349 mwX11_isNumber rfl ⟨Nat.le_of_ble_eq_true rfl, Nat.le_of_ble_eq_true rfl⟩ (Nat.le_of_ble_eq_true rfl) ⟨Nat.le_refl _, Nat.le_refl _⟩ (fun b => b) ?_
  refine r_if_eq (pc := 4) (tgt := 14) dX11_flagsOf_4 rfl (fun c => ?_) (fun c => ?_)
  · have h := it h c
    refine r_bipush (pc := 14) dX11_flagsOf_14 kc_bipush_32 ?_
    subst h
    exact r_iret dX11_flagsOf_16
  · have h := ie h c
    refine r_lload_n (pc := 7) dX11_flagsOf_7 rfl 1 rfl ?_
    refine r_callS1 (pc := 8) (av := [vL x2]) (S := []) dX11_flagsOf_8 (kX11_isNumber rfl) mkX11_349 mwX11_isNumber rfl ⟨Nat.le_of_ble_eq_true rfl, Nat.le_of_ble_eq_true rfl⟩ (Nat.le_of_ble_eq_true rfl) ⟨Nat.le_refl _, Nat.le_refl _⟩ (fun b => b) ?_
    refine r_ifne (pc := 11) (tgt := 17) dX11_flagsOf_11 rfl (fun c => ?_) (fun c => ?_)
    · have h := ie h c
      refine r_lload_n (pc := 17) dX11_flagsOf_17 rfl 0 rfl ?_
      refine r_ldc2 (pc := 18) dX11_flagsOf_18 clX11_540 ?_
      refine r_lcmp (pc := 21) dX11_flagsOf_21 ?_
      refine r_ifne (pc := 22) (tgt := 29) dX11_flagsOf_22 rfl (fun c => ?_) (fun c => ?_)
      · have h := ie h (fun q => c (lgc_eq.mpr q))
        refine r_lload_n (pc := 29) dX11_flagsOf_29 rfl 0 rfl ?_
        refine r_callS1 (pc := 30) (av := [vL x0]) (S := []) dX11_flagsOf_30 (kX11_orderKey rfl) mkX11_558 mwX11_orderKey rfl ⟨Nat.le_of_ble_eq_true rfl, Nat.le_of_ble_eq_true rfl⟩ (Nat.le_of_ble_eq_true rfl) ⟨Nat.le_refl _, Nat.le_refl _⟩ (fun b => b) ?_
        refine r_lstore (pc := 33) (L' := [(4, vL (fX11_orderKey x0)), (0, vL x0), (2, vL x2)]) dX11_flagsOf_33 (by decide) rfl ?_
        refine r_lload_n (pc := 35) dX11_flagsOf_35 rfl 2 rfl ?_
        refine r_ldc2 (pc := 36) dX11_flagsOf_36 clX11_540 ?_
        refine r_lcmp (pc := 39) dX11_flagsOf_39 ?_
        refine r_ifne (pc := 40) (tgt := 47) dX11_flagsOf_40 rfl (fun c => ?_) (fun c => ?_)
        · have h := ie h (fun q => c (lgc_eq.mpr q))
          refine r_lload_n (pc := 47) dX11_flagsOf_47 rfl 2 rfl ?_
          refine r_callS1 (pc := 48) (av := [vL x2]) (S := []) dX11_flagsOf_48 (kX11_orderKey rfl) mkX11_558 mwX11_orderKey rfl ⟨Nat.le_of_ble_eq_true rfl, Nat.le_of_ble_eq_true rfl⟩ (Nat.le_of_ble_eq_true rfl) ⟨Nat.le_refl _, Nat.le_refl _⟩ (fun b => b) ?_
          refine r_sub [0] rfl ?_
          exact wX11_flagsOf_b51 h
        · have h := it h (lgc_eq.mp c)
          refine r_lconst (pc := 43) dX11_flagsOf_43 kc_lconst_0 ?_
          refine r_goto (pc := 44) (tgt := 51) dX11_flagsOf_44 rfl ?_
          refine r_sub [0] rfl ?_
          exact wX11_flagsOf_b51 h
      · have h := it h (lgc_eq.mp c)
        refine r_lconst (pc := 25) dX11_flagsOf_25 kc_lconst_0 ?_
        refine r_goto (pc := 26) (tgt := 33) dX11_flagsOf_26 rfl ?_
        refine r_lstore (pc := 33) (L' := [(4, vL (0 : Int64)), (0, vL x0), (2, vL x2)]) dX11_flagsOf_33 (by decide) rfl ?_
        refine r_lload_n (pc := 35) dX11_flagsOf_35 rfl 2 rfl ?_
        refine r_ldc2 (pc := 36) dX11_flagsOf_36 clX11_540 ?_
        refine r_lcmp (pc := 39) dX11_flagsOf_39 ?_
        refine r_ifne (pc := 40) (tgt := 47) dX11_flagsOf_40 rfl (fun c => ?_) (fun c => ?_)
        · have h := ie h (fun q => c (lgc_eq.mpr q))
          refine r_lload_n (pc := 47) dX11_flagsOf_47 rfl 2 rfl ?_
          refine r_callS1 (pc := 48) (av := [vL x2]) (S := []) dX11_flagsOf_48 (kX11_orderKey rfl) mkX11_558 mwX11_orderKey rfl ⟨Nat.le_of_ble_eq_true rfl, Nat.le_of_ble_eq_true rfl⟩ (Nat.le_of_ble_eq_true rfl) ⟨Nat.le_refl _, Nat.le_refl _⟩ (fun b => b) ?_
          refine r_sub [0] rfl ?_
          exact wX11_flagsOf_b51 h
        · have h := it h (lgc_eq.mp c)
          refine r_lconst (pc := 43) dX11_flagsOf_43 kc_lconst_0 ?_
          refine r_goto (pc := 44) (tgt := 51) dX11_flagsOf_44 rfl ?_
          refine r_sub [0] rfl ?_
          exact wX11_flagsOf_b51 h
    · have h := it h c
      refine r_bipush (pc := 14) dX11_flagsOf_14 kc_bipush_32 ?_
      subst h
      exact r_iret dX11_flagsOf_16
abbrev WX11_compare (G : Gx) (l : Launch) (σ0 : Shp) (X1 : Stt) (rv : Option SV) : Stt → Nat → List (Nat × SV) → List SV → Prop := Wm G l yX11_compare cX11_compare 9 (some .int) (fun _ => True) (rmx 4 93 σ0 X1.1) σ0 (Qmx G σ0 X1 rv)
def fX11_compare_b95  (σ : Shp) (J : Nat → Nat → Int64) (R : Nat → Nat → Option Nat) (t : Nat) (I : Nat → Nat → Int32) (x1 : Int32) (x3 : Int32) (x5 : Int32) (x6 : Option Nat) (x7 : Option Nat) (x8 : Int32) : Option ((Nat → Nat → Int32) × (Int32)) :=
  if x8 = 0 then
    onl x6
      (
        if kdx σ t = 12 then
        (fX11_fail σ I t x8).bind fun (I23, r24) =>
        some (I23, r24)
        else none)
      (fun a21 =>
        onl x7
          (
            if kdx σ t = 12 then
            (fX11_fail σ I t x8).bind fun (I28, r29) =>
            some (I28, r29)
            else none)
          (fun a26 =>
            if kdx σ a21 = 11 then
            ((R a21 1) : Option Nat).bind fun a32 =>
            if kdx σ a32 = 21 then
            if ¬ (x3 < 0 ∨ lnx σ a32 ≤ Int32.toNatClampNeg x3) then
            if kdx σ a26 = 11 then
            ((R a26 1) : Option Nat).bind fun a36 =>
            if kdx σ a36 = 21 then
            if ¬ (x5 < 0 ∨ lnx σ a36 ≤ Int32.toNatClampNeg x5) then
            some (I, (fX11_flagsOf (fX11_doubleBits x1 (J a32 (Int32.toNatClampNeg x3))) (fX11_doubleBits x1 (J a36 (Int32.toNatClampNeg x5)))))
            else none
            else none
            else none
            else none
            else none
            else none))
  else
    if kdx σ t = 12 then
    (fX11_fail σ I t x8).bind fun (I18, r19) =>
    some (I18, r19)
    else none
theorem wX11_compare_b95 {G : Gx} {l : Launch} {σ : Shp} {I : Nat → Nat → Int32} {J : Nat → Nat → Int64} {D : Nat → Nat → UInt64} {R : Nat → Nat → Option Nat} {t : Nat} {I9 : Nat → Nat → Int32} {r9 : Int32} {x1 : Int32} {x3 : Int32} {x5 : Int32} {x6 : Option Nat} {x7 : Option Nat} {x8 : Int32} (h : fX11_compare_b95 σ J R t I x1 x3 x5 x6 x7 x8 = some (I9, r9)) : WX11_compare G l σ (σ, I9, J, D, R) (some (vI r9)) (σ, I, J, D, R) 95 [(0, vR (some t)), (1, vI x1), (3, vI x3), (5, vI x5), (6, vR x6), (7, vR x7), (8, vI x8)] [] := by
  unfold fX11_compare_b95 at h
  refine r_iload (pc := 95) dX11_compare_95 6 rfl ?_
  refine r_ifne (pc := 97) (tgt := 110) dX11_compare_97 rfl (fun c => ?_) (fun c => ?_)
  · have h := ie h c
    refine r_aload_n (pc := 110) dX11_compare_110 rfl 0 rfl ?_
    refine r_iload (pc := 111) dX11_compare_111 6 rfl ?_
    obtain ⟨g17, h⟩ := gd h
    obtain ⟨⟨I18, r19⟩, hc20, h⟩ := ob h
    refine r_callV1 (pc := 113) (av := [vI x8]) (S := []) dX11_compare_113 (kX11_fail hc20) g17 rfl mkX11_87 mwX11_fail rfl ⟨Nat.le_of_ble_eq_true rfl, Nat.le_of_ble_eq_true rfl⟩ (Nat.le_of_ble_eq_true rfl) ⟨Nat.le_refl _, Nat.le_refl _⟩ (fun b => b) ?_
    cases h
    exact r_iret dX11_compare_116
  · have h := it h c
    refine r_aload (pc := 100) dX11_compare_100 4 rfl ?_
    rcases onl_c h with ⟨ea21, h⟩ | ⟨a21, ha21, h⟩
    · refine r_ref0n ea21 ?_
      refine r_ifnull_n (pc := 102) (tgt := 110) dX11_compare_102 rfl ?_
      refine r_aload_n (pc := 110) dX11_compare_110 rfl 0 rfl ?_
      refine r_iload (pc := 111) dX11_compare_111 6 rfl ?_
      obtain ⟨g22, h⟩ := gd h
      obtain ⟨⟨I23, r24⟩, hc25, h⟩ := ob h
      refine r_callV1 (pc := 113) (av := [vI x8]) (S := []) dX11_compare_113 (kX11_fail hc25) g22 rfl mkX11_87 mwX11_fail rfl ⟨Nat.le_of_ble_eq_true rfl, Nat.le_of_ble_eq_true rfl⟩ (Nat.le_of_ble_eq_true rfl) ⟨Nat.le_refl _, Nat.le_refl _⟩ (fun b => b) ?_
      cases h
      exact r_iret dX11_compare_116
    · refine r_ref0 ha21 ?_
      refine r_ifnull_s (pc := 102) dX11_compare_102 ?_
      refine r_aload (pc := 105) dX11_compare_105 5 rfl ?_
      rcases onl_c h with ⟨ea26, h⟩ | ⟨a26, ha26, h⟩
      · refine r_ref0n ea26 ?_
        refine r_ifnonnull_n (pc := 107) dX11_compare_107 ?_
        refine r_aload_n (pc := 110) dX11_compare_110 rfl 0 rfl ?_
        refine r_iload (pc := 111) dX11_compare_111 6 rfl ?_
        obtain ⟨g27, h⟩ := gd h
        obtain ⟨⟨I28, r29⟩, hc30, h⟩ := ob h
        refine r_callV1 (pc := 113) (av := [vI x8]) (S := []) dX11_compare_113 (kX11_fail hc30) g27 rfl mkX11_87 mwX11_fail rfl ⟨Nat.le_of_ble_eq_true rfl, Nat.le_of_ble_eq_true rfl⟩ (Nat.le_of_ble_eq_true rfl) ⟨Nat.le_refl _, Nat.le_refl _⟩ (fun b => b) ?_
        cases h
        exact r_iret dX11_compare_116
      · refine r_ref0 ha26 ?_
        refine r_ifnonnull_s (pc := 107) (tgt := 117) dX11_compare_107 rfl ?_
        refine r_iload_n (pc := 117) dX11_compare_117 rfl 1 rfl ?_
        refine r_aload (pc := 118) dX11_compare_118 4 rfl ?_
        refine r_ref0 ha21 ?_
        obtain ⟨g31, h⟩ := gd h
        obtain ⟨a32, ha32, h⟩ := ob h
        refine r_getS (pc := 120) dX11_compare_120 fgX11_134 rfl g31 ha32 ?_
        refine r_iload_n (pc := 123) dX11_compare_123 rfl 2 rfl ?_
        obtain ⟨g33, h⟩ := gd h
        obtain ⟨g34, h⟩ := gd h
        refine r_laload (pc := 124) dX11_compare_124 g33 g34 ?_
        refine r_callS1 (pc := 125) (av := [vI x1, vL (J a32 (Int32.toNatClampNeg x3))]) (S := []) dX11_compare_125 (kX11_doubleBits rfl) mkX11_410 mwX11_doubleBits rfl ⟨Nat.le_of_ble_eq_true rfl, Nat.le_of_ble_eq_true rfl⟩ (Nat.le_of_ble_eq_true rfl) ⟨Nat.le_refl _, Nat.le_refl _⟩ (fun b => b) ?_
        refine r_iload_n (pc := 128) dX11_compare_128 rfl 1 rfl ?_
        refine r_aload (pc := 129) dX11_compare_129 5 rfl ?_
        refine r_ref0 ha26 ?_
        obtain ⟨g35, h⟩ := gd h
        obtain ⟨a36, ha36, h⟩ := ob h
        refine r_getS (pc := 131) dX11_compare_131 fgX11_134 rfl g35 ha36 ?_
        refine r_iload (pc := 134) dX11_compare_134 3 rfl ?_
        obtain ⟨g37, h⟩ := gd h
        obtain ⟨g38, h⟩ := gd h
        refine r_laload (pc := 136) dX11_compare_136 g37 g38 ?_
        refine r_callS1 (pc := 137) (av := [vI x1, vL (J a36 (Int32.toNatClampNeg x5))]) (S := [vL (fX11_doubleBits x1 (J a32 (Int32.toNatClampNeg x3)))]) dX11_compare_137 (kX11_doubleBits rfl) mkX11_410 mwX11_doubleBits rfl ⟨Nat.le_of_ble_eq_true rfl, Nat.le_of_ble_eq_true rfl⟩ (Nat.le_of_ble_eq_true rfl) ⟨Nat.le_refl _, Nat.le_refl _⟩ (fun b => b) ?_
        refine r_callS1 (pc := 140) (av := [vL (fX11_doubleBits x1 (J a32 (Int32.toNatClampNeg x3))), vL (fX11_doubleBits x1 (J a36 (Int32.toNatClampNeg x5)))]) (S := []) dX11_compare_140 (kX11_flagsOf rfl) mkX11_413 mwX11_flagsOf rfl ⟨Nat.le_of_ble_eq_true rfl, Nat.le_of_ble_eq_true rfl⟩ (Nat.le_of_ble_eq_true rfl) ⟨Nat.le_refl _, Nat.le_refl _⟩ (fun b => b) ?_
        cases h
        exact r_iret dX11_compare_143
def fX11_compare_b12  (σ : Shp) (J : Nat → Nat → Int64) (R : Nat → Nat → Option Nat) (t : Nat) (I : Nat → Nat → Int32) (x1 : Int32) (x2 : Int32) (x3 : Int32) (x4 : Int32) (x5 : Int32) : Option ((Nat → Nat → Int32) × (Int32)) :=
  if (fX11_isBin x2) = 0 then
    some (I, (-2 : Int32))
  else
    if (fX11_isBin x4) = 0 then
      some (I, (-2 : Int32))
    else
      if kdx σ t = 12 then
      ((R t 1) : Option Nat).bind fun a2 =>
      if kdx σ a2 = 26 then
      if ¬ (x2 < 0 ∨ lnx σ a2 ≤ Int32.toNatClampNeg x2) then
      let v5 := (R a2 (Int32.toNatClampNeg x2))
      if ¬ (x4 < 0 ∨ lnx σ a2 ≤ Int32.toNatClampNeg x4) then
      let v7 := (R a2 (Int32.toNatClampNeg x4))
      (fX11_goesFor σ I v5 x1).bind fun r8 =>
      if r8 = 0 then
        (fX11_fail σ I t (4 : Int32)).bind fun (I10, r11) =>
        some (I10, r11)
      else
        (fX11_goesFor σ I v7 x1).bind fun r13 =>
        if r13 = 0 then
          (fX11_fail σ I t (4 : Int32)).bind fun (I41, r42) =>
          some (I41, r42)
        else
          (fX11_cellFault σ I R v5 x1 x3).bind fun r15 =>
          if r15 = 0 then
            (fX11_cellFault σ I R v7 x1 x5).bind fun r39 =>
            fX11_compare_b95 σ J R t I x1 x3 x5 v5 v7 r39
          else
            fX11_compare_b95 σ J R t I x1 x3 x5 v5 v7 r15
      else none
      else none
      else none
      else none
theorem wX11_compare_b12 {G : Gx} {l : Launch} {σ : Shp} {I : Nat → Nat → Int32} {J : Nat → Nat → Int64} {D : Nat → Nat → UInt64} {R : Nat → Nat → Option Nat} {t : Nat} {I9 : Nat → Nat → Int32} {r9 : Int32} {x1 : Int32} {x2 : Int32} {x3 : Int32} {x4 : Int32} {x5 : Int32} (h : fX11_compare_b12 σ J R t I x1 x2 x3 x4 x5 = some (I9, r9)) : WX11_compare G l σ (σ, I9, J, D, R) (some (vI r9)) (σ, I, J, D, R) 12 [(0, vR (some t)), (1, vI x1), (2, vI x2), (3, vI x3), (4, vI x4), (5, vI x5)] [] := by
  unfold fX11_compare_b12 at h
  refine r_iload_n (pc := 12) dX11_compare_12 rfl 2 rfl ?_
  refine r_callS1 (pc := 13) (av := [vI x2]) (S := []) dX11_compare_13 (kX11_isBin rfl) mkX11_76 mwX11_isBin rfl ⟨Nat.le_of_ble_eq_true rfl, Nat.le_of_ble_eq_true rfl⟩ (Nat.le_of_ble_eq_true rfl) ⟨Nat.le_refl _, Nat.le_refl _⟩ (fun b => b) ?_
  refine r_if_eq (pc := 16) (tgt := 27) dX11_compare_16 rfl (fun c => ?_) (fun c => ?_)
  · have h := it h c
    refine r_bipush (pc := 27) dX11_compare_27 kc_bipush_m2 ?_
    cases h
    exact r_iret dX11_compare_29
  · have h := ie h c
    refine r_iload (pc := 19) dX11_compare_19 4 rfl ?_
    refine r_callS1 (pc := 21) (av := [vI x4]) (S := []) dX11_compare_21 (kX11_isBin rfl) mkX11_76 mwX11_isBin rfl ⟨Nat.le_of_ble_eq_true rfl, Nat.le_of_ble_eq_true rfl⟩ (Nat.le_of_ble_eq_true rfl) ⟨Nat.le_refl _, Nat.le_refl _⟩ (fun b => b) ?_
    refine r_ifne (pc := 24) (tgt := 30) dX11_compare_24 rfl (fun c => ?_) (fun c => ?_)
    · have h := ie h c
      refine r_aload_n (pc := 30) dX11_compare_30 rfl 0 rfl ?_
      obtain ⟨g1, h⟩ := gd h
      obtain ⟨a2, ha2, h⟩ := ob h
      refine r_getS (pc := 31) dX11_compare_31 fgX11_20 rfl g1 ha2 ?_
      refine r_iload_n (pc := 34) dX11_compare_34 rfl 2 rfl ?_
      obtain ⟨g3, h⟩ := gd h
      obtain ⟨g4, h⟩ := gd h
      refine r_aaload (pc := 35) dX11_compare_35 g3 (by decide) g4 ?_
      refine r_astore (pc := 36) (L' := [(6, vR (R a2 (Int32.toNatClampNeg x2))), (0, vR (some t)), (1, vI x1), (2, vI x2), (3, vI x3), (4, vI x4), (5, vI x5)]) dX11_compare_36 (by decide) rfl ?_
      refine r_aload_n (pc := 38) dX11_compare_38 rfl 1 rfl ?_
      refine r_getS (pc := 39) dX11_compare_39 fgX11_20 rfl g1 ha2 ?_
      refine r_iload (pc := 42) dX11_compare_42 5 rfl ?_
      obtain ⟨g6, h⟩ := gd h
      refine r_aaload (pc := 44) dX11_compare_44 g3 (by decide) g6 ?_
      refine r_astore (pc := 45) (L' := [(7, vR (R a2 (Int32.toNatClampNeg x4))), (6, vR (R a2 (Int32.toNatClampNeg x2))), (0, vR (some t)), (1, vI x1), (2, vI x2), (3, vI x3), (4, vI x4), (5, vI x5)]) dX11_compare_45 (by decide) rfl ?_
      refine r_aload (pc := 47) dX11_compare_47 1 rfl ?_
      refine r_iload_n (pc := 49) dX11_compare_49 rfl 3 rfl ?_
      obtain ⟨r8, hc9, h⟩ := ob h
      refine r_callS1 (pc := 50) (av := [vR (R a2 (Int32.toNatClampNeg x2)), vI x1]) (S := []) dX11_compare_50 (kX11_goesFor hc9) mkX11_164 mwX11_goesFor rfl ⟨Nat.le_of_ble_eq_true rfl, Nat.le_of_ble_eq_true rfl⟩ (Nat.le_of_ble_eq_true rfl) ⟨Nat.le_refl _, Nat.le_refl _⟩ (fun b => b) ?_
      refine r_if_eq (pc := 53) (tgt := 65) dX11_compare_53 rfl (fun c => ?_) (fun c => ?_)
      · have h := it h c
        refine r_aload_n (pc := 65) dX11_compare_65 rfl 2 rfl ?_
        refine r_iconst (pc := 66) dX11_compare_66 kc_iconst_4 ?_
        obtain ⟨⟨I10, r11⟩, hc12, h⟩ := ob h
        refine r_callV1 (pc := 67) (av := [vI (4 : Int32)]) (S := []) dX11_compare_67 (kX11_fail hc12) g1 rfl mkX11_87 mwX11_fail rfl ⟨Nat.le_of_ble_eq_true rfl, Nat.le_of_ble_eq_true rfl⟩ (Nat.le_of_ble_eq_true rfl) ⟨Nat.le_refl _, Nat.le_refl _⟩ (fun b => b) ?_
        cases h
        exact r_iret dX11_compare_70
      · have h := ie h c
        refine r_aload (pc := 56) dX11_compare_56 0 rfl ?_
        refine r_iload_n (pc := 58) dX11_compare_58 rfl 3 rfl ?_
        obtain ⟨r13, hc14, h⟩ := ob h
        refine r_callS1 (pc := 59) (av := [vR (R a2 (Int32.toNatClampNeg x4)), vI x1]) (S := []) dX11_compare_59 (kX11_goesFor hc14) mkX11_164 mwX11_goesFor rfl ⟨Nat.le_of_ble_eq_true rfl, Nat.le_of_ble_eq_true rfl⟩ (Nat.le_of_ble_eq_true rfl) ⟨Nat.le_refl _, Nat.le_refl _⟩ (fun b => b) ?_
        refine r_ifne (pc := 62) (tgt := 71) dX11_compare_62 rfl (fun c => ?_) (fun c => ?_)
        · have h := ie h c
          refine r_aload (pc := 71) dX11_compare_71 1 rfl ?_
          refine r_iload_n (pc := 73) dX11_compare_73 rfl 3 rfl ?_
          refine r_iload_n (pc := 74) dX11_compare_74 rfl 5 rfl ?_
          obtain ⟨r15, hc16, h⟩ := ob h
          refine r_callS1 (pc := 75) (av := [vR (R a2 (Int32.toNatClampNeg x2)), vI x1, vI x3]) (S := []) dX11_compare_75 (kX11_cellFault hc16) mkX11_130 mwX11_cellFault rfl ⟨Nat.le_of_ble_eq_true rfl, Nat.le_of_ble_eq_true rfl⟩ (Nat.le_of_ble_eq_true rfl) ⟨Nat.le_refl _, Nat.le_refl _⟩ (fun b => b) ?_
          refine r_istore (pc := 78) (L' := [(8, vI r15), (7, vR (R a2 (Int32.toNatClampNeg x4))), (6, vR (R a2 (Int32.toNatClampNeg x2))), (0, vR (some t)), (1, vI x1), (2, vI x2), (3, vI x3), (4, vI x4), (5, vI x5)]) dX11_compare_78 (by decide) rfl ?_
          refine r_iload (pc := 80) dX11_compare_80 0 rfl ?_
          refine r_ifne (pc := 82) (tgt := 95) dX11_compare_82 rfl (fun c => ?_) (fun c => ?_)
          · have h := ie h c
            refine r_sub [3, 4, 6, 8, 2, 1, 0] rfl ?_
            exact wX11_compare_b95 h
          · have h := it h c
            refine r_aload (pc := 85) dX11_compare_85 1 rfl ?_
            refine r_iload_n (pc := 87) dX11_compare_87 rfl 4 rfl ?_
            refine r_iload (pc := 88) dX11_compare_88 8 rfl ?_
            obtain ⟨r39, hc40, h⟩ := ob h
            refine r_callS1 (pc := 90) (av := [vR (R a2 (Int32.toNatClampNeg x4)), vI x1, vI x5]) (S := []) dX11_compare_90 (kX11_cellFault hc40) mkX11_130 mwX11_cellFault rfl ⟨Nat.le_of_ble_eq_true rfl, Nat.le_of_ble_eq_true rfl⟩ (Nat.le_of_ble_eq_true rfl) ⟨Nat.le_refl _, Nat.le_refl _⟩ (fun b => b) ?_
            refine r_istore (pc := 93) (L' := [(8, vI r39), (7, vR (R a2 (Int32.toNatClampNeg x4))), (6, vR (R a2 (Int32.toNatClampNeg x2))), (0, vR (some t)), (1, vI x1), (2, vI x2), (3, vI x3), (4, vI x4), (5, vI x5)]) dX11_compare_93 (by decide) rfl ?_
            refine r_sub [3, 4, 6, 8, 2, 1, 0] rfl ?_
            exact wX11_compare_b95 h
        · have h := it h c
          refine r_aload_n (pc := 65) dX11_compare_65 rfl 2 rfl ?_
          refine r_iconst (pc := 66) dX11_compare_66 kc_iconst_4 ?_
          obtain ⟨⟨I41, r42⟩, hc43, h⟩ := ob h
          refine r_callV1 (pc := 67) (av := [vI (4 : Int32)]) (S := []) dX11_compare_67 (kX11_fail hc43) g1 rfl mkX11_87 mwX11_fail rfl ⟨Nat.le_of_ble_eq_true rfl, Nat.le_of_ble_eq_true rfl⟩ (Nat.le_of_ble_eq_true rfl) ⟨Nat.le_refl _, Nat.le_refl _⟩ (fun b => b) ?_
          cases h
          exact r_iret dX11_compare_70
    · have h := it h c
      refine r_bipush (pc := 27) dX11_compare_27 kc_bipush_m2 ?_
      cases h
      exact r_iret dX11_compare_29
def fX11_compare (σ : Shp) (I : Nat → Nat → Int32) (J : Nat → Nat → Int64) (R : Nat → Nat → Option Nat) (t : Nat) (x1 : Int32) (x2 : Int32) (x3 : Int32) (x4 : Int32) (x5 : Int32) : Option ((Nat → Nat → Int32) × (Int32)) :=
  if x1 = (6 : Int32) then
    fX11_compare_b12 σ J R t I x1 x2 x3 x4 x5
  else
    if x1 = (7 : Int32) then
      fX11_compare_b12 σ J R t I x1 x2 x3 x4 x5
    else
      some (I, (-2 : Int32))
theorem kX11_compare {G : Gx} {l : Launch} {σ : Shp} {I : Nat → Nat → Int32} {J : Nat → Nat → Int64} {D : Nat → Nat → UInt64} {R : Nat → Nat → Option Nat} {t : Nat} {x1 : Int32} {x2 : Int32} {x3 : Int32} {x4 : Int32} {x5 : Int32} {I9 : Nat → Nat → Int32} {r9 : Int32} (h : fX11_compare σ I J R t x1 x2 x3 x4 x5 = some (I9, r9)) : Con G l yX11_compare cX11_compare 9 (some .int) 4 93 [vR (some t), vI x1, vI x2, vI x3, vI x4, vI x5] (σ, I, J, D, R) (σ, I9, J, D, R) (some (vI r9)) := by
  unfold fX11_compare at h
  refine Con.mk (by decide +kernel) rfl (Nat.le_of_ble_eq_true rfl) ?_
  show WX11_compare G l σ (σ, I9, J, D, R) (some (vI r9)) (σ, I, J, D, R) 0 _ []
  refine r_iload_n (pc := 0) dX11_compare_0 rfl 1 rfl ?_
  refine r_bipush (pc := 1) dX11_compare_1 kc_bipush_6 ?_
  refine r_icmp_eq (pc := 3) (tgt := 12) dX11_compare_3 rfl (fun c => ?_) (fun c => ?_)
  · have h := it h c
    refine r_sub [0, 1, 2, 3, 4, 5] rfl ?_
    exact wX11_compare_b12 h
  · have h := ie h c
    refine r_iload_n (pc := 6) dX11_compare_6 rfl 1 rfl ?_
    refine r_bipush (pc := 7) dX11_compare_7 kc_bipush_7 ?_
    refine r_icmp_ne (pc := 9) (tgt := 27) dX11_compare_9 rfl (fun c => ?_) (fun c => ?_)
    · have h := ie h c
      refine r_bipush (pc := 27) dX11_compare_27 kc_bipush_m2 ?_
      cases h
      exact r_iret dX11_compare_29
    · have h := it h c
      refine r_sub [0, 1, 2, 3, 4, 5] rfl ?_
      exact wX11_compare_b12 h
abbrev WX11_gatherNumbers (G : Gx) (l : Launch) (σ0 : Shp) (X1 : Stt) (rv : Option SV) : Stt → Nat → List (Nat × SV) → List SV → Prop := Wm G l yX11_gatherNumbers cX11_gatherNumbers 7 (some .int) (fun _ => True) (rmx 4 93 σ0 X1.1) σ0 (Qmx G σ0 X1 rv)
def fX11_gatherNumbers_l5  (σ : Shp) (R : Nat → Nat → Option Nat) (t : Nat) : Nat → (Nat → Nat → Int64) → (Option Nat) → (Int32) → (Int32) → (Int32) → Option ((Nat → Nat → Int64) × (Int32))
  | 0, _, _, _, _, _ => none
  | n + 1, J, x1, x2, x3, x4 =>
    (x1 : Option Nat).bind fun a1 =>
    if kdx σ a1 = 11 then
    ((R a1 1) : Option Nat).bind fun a3 =>
    if kdx σ a3 = 21 then
    if (Int32.ofNat (lnx σ a3)) ≤ x4 then
      some (J, x3)
    else
      if kdx σ t = 12 then
      ((R t 10) : Option Nat).bind fun a6 =>
      if kdx σ a6 = 21 then
      if (Int32.ofNat (lnx σ a6)) ≤ x3 then
        some (J, x3)
      else
        if ¬ (x4 < 0 ∨ lnx σ a3 ≤ Int32.toNatClampNeg x4) then
        let v9 := (fX11_doubleBits x2 (J a3 (Int32.toNatClampNeg x4)))
        if (fX11_isNumber v9) = 0 then
          let v10 := x4 + (1 : Int32)
          fX11_gatherNumbers_l5 σ R t n J x1 x2 x3 v10
        else
          if ¬ (x3 < 0 ∨ lnx σ a6 ≤ Int32.toNatClampNeg x3) then
          let J12 := u2 J a6 (Int32.toNatClampNeg x3) v9
          let v13 := x3 + (1 : Int32)
          let v14 := x4 + (1 : Int32)
          fX11_gatherNumbers_l5 σ R t n J12 x1 x2 v13 v14
          else none
        else none
      else none
      else none
    else none
    else none
theorem wX11_gatherNumbers_l5 {G : Gx} {l : Launch} {σ : Shp} {I : Nat → Nat → Int32} {D : Nat → Nat → UInt64} {R : Nat → Nat → Option Nat} {t : Nat} {J9 : Nat → Nat → Int64} {r9 : Int32} : ∀ (n : Nat) (J : Nat → Nat → Int64) (x1 : Option Nat) (x2 : Int32) (x3 : Int32) (x4 : Int32), fX11_gatherNumbers_l5 σ R t n J x1 x2 x3 x4 = some (J9, r9) → WX11_gatherNumbers G l σ (σ, I, J9, D, R) (some (vI r9)) (σ, I, J, D, R) 5 [(0, vR (some t)), (1, vR x1), (2, vI x2), (3, vI x3), (4, vI x4)] [] := by
  intro n
  induction n with
  | zero =>
    intro J x1 x2 x3 x4 h
    have h : none = some _ := h
    cases h
  | succ n ih =>
    intro J x1 x2 x3 x4 h
    rw [fX11_gatherNumbers_l5] at h
    refine r_iload (pc := 5) dX11_gatherNumbers_5 4 rfl ?_
    refine r_aload_n (pc := 7) dX11_gatherNumbers_7 rfl 1 rfl ?_
    obtain ⟨a1, ha1, h⟩ := ob h
    refine r_ref0 ha1 ?_
    obtain ⟨g2, h⟩ := gd h
    obtain ⟨a3, ha3, h⟩ := ob h
    refine r_getS (pc := 8) dX11_gatherNumbers_8 fgX11_134 rfl g2 ha3 ?_
    obtain ⟨g4, h⟩ := gd h
    refine r_alen (pc := 11) dX11_gatherNumbers_11 g4 (by decide) ?_
    refine r_icmp_ge (pc := 12) (tgt := 62) dX11_gatherNumbers_12 rfl (fun c => ?_) (fun c => ?_)
    · have h := it h c
      refine r_iload_n (pc := 62) dX11_gatherNumbers_62 rfl 3 rfl ?_
      cases h
      exact r_iret dX11_gatherNumbers_63
    · have h := ie h c
      refine r_iload_n (pc := 15) dX11_gatherNumbers_15 rfl 3 rfl ?_
      refine r_aload_n (pc := 16) dX11_gatherNumbers_16 rfl 0 rfl ?_
      obtain ⟨g5, h⟩ := gd h
      obtain ⟨a6, ha6, h⟩ := ob h
      refine r_getS (pc := 17) dX11_gatherNumbers_17 fgX11_69 rfl g5 ha6 ?_
      obtain ⟨g7, h⟩ := gd h
      refine r_alen (pc := 20) dX11_gatherNumbers_20 g7 (by decide) ?_
      refine r_icmp_ge (pc := 21) (tgt := 62) dX11_gatherNumbers_21 rfl (fun c => ?_) (fun c => ?_)
      · have h := it h c
        refine r_iload_n (pc := 62) dX11_gatherNumbers_62 rfl 3 rfl ?_
        cases h
        exact r_iret dX11_gatherNumbers_63
      · have h := ie h c
        refine r_iload_n (pc := 24) dX11_gatherNumbers_24 rfl 2 rfl ?_
        refine r_aload_n (pc := 25) dX11_gatherNumbers_25 rfl 1 rfl ?_
        refine r_ref0 ha1 ?_
        refine r_getS (pc := 26) dX11_gatherNumbers_26 fgX11_134 rfl g2 ha3 ?_
        refine r_iload (pc := 29) dX11_gatherNumbers_29 4 rfl ?_
        obtain ⟨g8, h⟩ := gd h
        refine r_laload (pc := 31) dX11_gatherNumbers_31 g4 g8 ?_
        refine r_callS1 (pc := 32) (av := [vI x2, vL (J a3 (Int32.toNatClampNeg x4))]) (S := []) dX11_gatherNumbers_32 (kX11_doubleBits rfl) mkX11_410 mwX11_doubleBits rfl ⟨Nat.le_of_ble_eq_true rfl, Nat.le_of_ble_eq_true rfl⟩ (Nat.le_of_ble_eq_true rfl) ⟨Nat.le_refl _, Nat.le_refl _⟩ (fun b => b) ?_
        refine r_lstore (pc := 35) (L' := [(5, vL (fX11_doubleBits x2 (J a3 (Int32.toNatClampNeg x4)))), (0, vR (some t)), (1, vR x1), (2, vI x2), (3, vI x3), (4, vI x4)]) dX11_gatherNumbers_35 (by decide) rfl ?_
        refine r_lload (pc := 37) dX11_gatherNumbers_37 0 rfl ?_
        refine r_callS1 (pc := 39) (av := [vL (fX11_doubleBits x2 (J a3 (Int32.toNatClampNeg x4)))]) (S := []) dX11_gatherNumbers_39 (kX11_isNumber rfl) mkX11_349 mwX11_isNumber rfl ⟨Nat.le_of_ble_eq_true rfl, Nat.le_of_ble_eq_true rfl⟩ (Nat.le_of_ble_eq_true rfl) ⟨Nat.le_refl _, Nat.le_refl _⟩ (fun b => b) ?_
        refine r_if_eq (pc := 42) (tgt := 56) dX11_gatherNumbers_42 rfl (fun c => ?_) (fun c => ?_)
        · have h := it h c
          refine r_iinc (pc := 56) (v := (x4 + (1 : Int32))) (L' := [(4, vI (x4 + (1 : Int32))), (5, vL (fX11_doubleBits x2 (J a3 (Int32.toNatClampNeg x4)))), (0, vR (some t)), (1, vR x1), (2, vI x2), (3, vI x3)]) dX11_gatherNumbers_56 5 rfl (kc_inc_1 _) (by decide) rfl ?_
          refine r_goto (pc := 59) (tgt := 5) dX11_gatherNumbers_59 rfl ?_
          refine r_sub [2, 3, 4, 5, 0] rfl ?_
          exact ih _ _ _ _ _ h
        · have h := ie h c
          refine r_aload_n (pc := 45) dX11_gatherNumbers_45 rfl 1 rfl ?_
          refine r_getS (pc := 46) dX11_gatherNumbers_46 fgX11_69 rfl g5 ha6 ?_
          refine r_iload_n (pc := 49) dX11_gatherNumbers_49 rfl 4 rfl ?_
          refine r_lload (pc := 50) dX11_gatherNumbers_50 0 rfl ?_
          obtain ⟨g11, h⟩ := gd h
          refine r_lastore (pc := 52) dX11_gatherNumbers_52 g7 g11 ?_
          refine r_iinc (pc := 53) (v := (x3 + (1 : Int32))) (L' := [(3, vI (x3 + (1 : Int32))), (5, vL (fX11_doubleBits x2 (J a3 (Int32.toNatClampNeg x4)))), (0, vR (some t)), (1, vR x1), (2, vI x2), (4, vI x4)]) dX11_gatherNumbers_53 4 rfl (kc_inc_1 _) (by decide) rfl ?_
          refine r_iinc (pc := 56) (v := (x4 + (1 : Int32))) (L' := [(4, vI (x4 + (1 : Int32))), (3, vI (x3 + (1 : Int32))), (5, vL (fX11_doubleBits x2 (J a3 (Int32.toNatClampNeg x4)))), (0, vR (some t)), (1, vR x1), (2, vI x2)]) dX11_gatherNumbers_56 5 rfl (kc_inc_1 _) (by decide) rfl ?_
          refine r_goto (pc := 59) (tgt := 5) dX11_gatherNumbers_59 rfl ?_
          refine r_sub [3, 4, 5, 1, 0] rfl ?_
          exact ih _ _ _ _ _ h
def fX11_gatherNumbers (σ : Shp) (J : Nat → Nat → Int64) (R : Nat → Nat → Option Nat) (t : Nat) (x1 : Option Nat) (x2 : Int32) : Option ((Nat → Nat → Int64) × (Int32)) :=
  fX11_gatherNumbers_l5 σ R t FUx J x1 x2 (0 : Int32) (0 : Int32)
theorem kX11_gatherNumbers {G : Gx} {l : Launch} {σ : Shp} {I : Nat → Nat → Int32} {J : Nat → Nat → Int64} {D : Nat → Nat → UInt64} {R : Nat → Nat → Option Nat} {t : Nat} {x1 : Option Nat} {x2 : Int32} {J9 : Nat → Nat → Int64} {r9 : Int32} (h : fX11_gatherNumbers σ J R t x1 x2 = some (J9, r9)) : Con G l yX11_gatherNumbers cX11_gatherNumbers 7 (some .int) 4 93 [vR (some t), vR x1, vI x2] (σ, I, J, D, R) (σ, I, J9, D, R) (some (vI r9)) := by
  unfold fX11_gatherNumbers at h
  refine Con.mk (by decide +kernel) rfl (Nat.le_of_ble_eq_true rfl) ?_
  show WX11_gatherNumbers G l σ (σ, I, J9, D, R) (some (vI r9)) (σ, I, J, D, R) 0 _ []
  refine r_iconst (pc := 0) dX11_gatherNumbers_0 kc_iconst_0 ?_
  refine r_istore_n (pc := 1) (L' := [(3, vI (0 : Int32)), (0, vR (some t)), (1, vR x1), (2, vI x2)]) dX11_gatherNumbers_1 rfl (by decide) rfl ?_
  refine r_iconst (pc := 2) dX11_gatherNumbers_2 kc_iconst_0 ?_
  refine r_istore (pc := 3) (L' := [(4, vI (0 : Int32)), (3, vI (0 : Int32)), (0, vR (some t)), (1, vR x1), (2, vI x2)]) dX11_gatherNumbers_3 (by decide) rfl ?_
  refine r_sub [2, 3, 4, 1, 0] rfl ?_
  exact wX11_gatherNumbers_l5 _ _ _ _ _ _ h
abbrev WX11_isEndless (G : Gx) (l : Launch) (σ0 : Shp) (X1 : Stt) (rv : Option SV) : Stt → Nat → List (Nat × SV) → List SV → Prop := Wm G l yX11_isEndless cX11_isEndless 2 (some .boolean) (fun _ => True) (rmx 0 0 σ0 X1.1) σ0 (Qmx G σ0 X1 rv)
def fX11_isEndless  (x0 : UInt64) : Option ((Int32)) :=
  if (Op.cmpValue (FP.dcmp x0 (FP.dconst0)) .l) = 0 then
    some (0 : Int32)
  else
    if (FP.dmul x0 (4602678819172646912 : UInt64)) &&& 0x7fffffffffffffff ≤ 0x7ff0000000000000 then
    if (Op.cmpValue (FP.dcmp (FP.dmul x0 (4602678819172646912 : UInt64)) x0) .l) = 0 then
      some (1 : Int32)
    else
      some (0 : Int32)
    else none
theorem kX11_isEndless {G : Gx} {l : Launch} {σ : Shp} {I : Nat → Nat → Int32} {J : Nat → Nat → Int64} {D : Nat → Nat → UInt64} {R : Nat → Nat → Option Nat} {x0 : UInt64} {r9 : Int32} (h : fX11_isEndless x0 = some r9) : Con G l yX11_isEndless cX11_isEndless 2 (some .boolean) 0 0 [vD x0] (σ, I, J, D, R) (σ, I, J, D, R) (some (vI r9)) := by
  unfold fX11_isEndless at h
  refine Con.mk (by decide +kernel) rfl (Nat.le_of_ble_eq_true rfl) ?_
  show WX11_isEndless G l σ (σ, I, J, D, R) (some (vI r9)) (σ, I, J, D, R) 0 _ []
  refine r_dload_n (pc := 0) dX11_isEndless_0 rfl 0 rfl ?_
  refine r_dconst0 (pc := 1) dX11_isEndless_1 ?_
  refine r_dcmp (pc := 2) dX11_isEndless_2 ?_
  refine r_if_eq (pc := 3) (tgt := 20) dX11_isEndless_3 rfl (fun c => ?_) (fun c => ?_)
  · have h := it h c
    refine r_iconst (pc := 20) dX11_isEndless_20 kc_iconst_0 ?_
    cases h
    exact r_zret dX11_isEndless_21 (Or.inl rfl)
  · have h := ie h c
    refine r_dload_n (pc := 6) dX11_isEndless_6 rfl 0 rfl ?_
    refine r_ldc2d (pc := 7) dX11_isEndless_7 cdX11_569 ?_
    obtain ⟨g1, h⟩ := gd h
    refine r_dmul (pc := 10) dX11_isEndless_10 g1 ?_
    refine r_dload_n (pc := 11) dX11_isEndless_11 rfl 0 rfl ?_
    refine r_dcmp (pc := 12) dX11_isEndless_12 ?_
    refine r_ifne (pc := 13) (tgt := 20) dX11_isEndless_13 rfl (fun c => ?_) (fun c => ?_)
    · have h := ie h c
      refine r_iconst (pc := 20) dX11_isEndless_20 kc_iconst_0 ?_
      cases h
      exact r_zret dX11_isEndless_21 (Or.inl rfl)
    · have h := it h c
      refine r_iconst (pc := 16) dX11_isEndless_16 kc_iconst_1 ?_
      refine r_goto (pc := 17) (tgt := 21) dX11_isEndless_17 rfl ?_
      cases h
      exact r_zret dX11_isEndless_21 (Or.inr rfl)
abbrev WX11_bitsOf (G : Gx) (l : Launch) (σ0 : Shp) (X1 : Stt) (rv : Option SV) : Stt → Nat → List (Nat × SV) → List SV → Prop := Wm G l yX11_bitsOf cX11_bitsOf 7 (some .long) (fun _ => True) (rmx 1 28 σ0 X1.1) σ0 (Qmx G σ0 X1 rv)
def fX11_bitsOf_l100   : Nat → (UInt64) → (Int32) → (Int32) → Option ((Int64))
  | 0, _, _, _ => none
  | n + 1, x2, x4, x5 =>
    if x5 ≤ 0 then
      (fX11_scaled x2 (52 : Int32)).bind fun r5 =>
      let v7 := (FP.d2l r5)
      if (-1022 : Int32) ≤ x4 then
        some ((((Int32.toInt64 x4) + (1023 : Int64)) <<< (Int32.toInt64 (52 : Int32) &&& 63)) ||| (v7 &&& (4503599627370495 : Int64)))
      else
        some (v7 >>> (Int32.toInt64 ((-1022 : Int32) - x4) &&& 63))
    else
      (fX11_scaled (FP.dconst1) ((1 : Int32) - x5)).bind fun r8 =>
      if 0 ≤ (Op.cmpValue (FP.dcmp x2 r8) .g) then
        let v10 := (x5 / (2 : Int32))
        fX11_bitsOf_l100 n x2 x4 v10
      else
        (fX11_scaled x2 x5).bind fun r11 =>
        let v13 := (x4 - x5)
        let v14 := (x5 / (2 : Int32))
        fX11_bitsOf_l100 n r11 v13 v14
theorem wX11_bitsOf_l100 {G : Gx} {l : Launch} {σ : Shp} {I : Nat → Nat → Int32} {J : Nat → Nat → Int64} {D : Nat → Nat → UInt64} {R : Nat → Nat → Option Nat} {r9 : Int64} : ∀ (n : Nat) (x2 : UInt64) (x4 : Int32) (x5 : Int32), fX11_bitsOf_l100 n x2 x4 x5 = some r9 → WX11_bitsOf G l σ (σ, I, J, D, R) (some (vL r9)) (σ, I, J, D, R) 100 [(2, vD x2), (4, vI x4), (5, vI x5)] [] := by
  intro n
  induction n with
  | zero =>
    intro x2 x4 x5 h
    have h : none = some _ := h
    cases h
  | succ n ih =>
    intro x2 x4 x5 h
    rw [fX11_bitsOf_l100] at h
    refine r_iload (pc := 100) dX11_bitsOf_100 2 rfl ?_
    refine r_if_le (pc := 102) (tgt := 141) dX11_bitsOf_102 rfl (fun c => ?_) (fun c => ?_)
    · have h := it h c
      refine r_dload_n (pc := 141) dX11_bitsOf_141 rfl 0 rfl ?_
      refine r_bipush (pc := 142) dX11_bitsOf_142 kc_bipush_52 ?_
      obtain ⟨r5, hc6, h⟩ := ob h
      refine r_callS1 (pc := 144) (av := [vD x2, vI (52 : Int32)]) (S := []) dX11_bitsOf_144 (kX11_scaled hc6) mkX11_575 mwX11_scaled rfl ⟨Nat.le_of_ble_eq_true rfl, Nat.le_of_ble_eq_true rfl⟩ (Nat.le_of_ble_eq_true rfl) ⟨Nat.le_refl _, Nat.le_refl _⟩ (fun b => b) ?_
      refine r_d2l (pc := 147) dX11_bitsOf_147 ?_
      refine r_lstore (pc := 148) (L' := [(5, vL (FP.d2l r5)), (2, vD x2), (4, vI x4)]) dX11_bitsOf_148 (by decide) rfl ?_
      refine r_iload (pc := 150) dX11_bitsOf_150 2 rfl ?_
      refine r_sipush (pc := 152) dX11_bitsOf_152 kc_sipush_m1022 ?_
      refine r_icmp_ge (pc := 155) (tgt := 168) dX11_bitsOf_155 rfl (fun c => ?_) (fun c => ?_)
      · have h := it h c
        refine r_iload (pc := 168) dX11_bitsOf_168 2 rfl ?_
        refine r_i2l (pc := 170) dX11_bitsOf_170 ?_
        refine r_ldc2 (pc := 171) dX11_bitsOf_171 clX11_581 ?_
        refine r_ladd (pc := 174) dX11_bitsOf_174 ?_
        refine r_bipush (pc := 175) dX11_bitsOf_175 kc_bipush_52 ?_
        refine r_lshl (pc := 177) dX11_bitsOf_177 ?_
        refine r_lload (pc := 178) dX11_bitsOf_178 0 rfl ?_
        refine r_ldc2 (pc := 180) dX11_bitsOf_180 clX11_556 ?_
        refine r_land (pc := 183) dX11_bitsOf_183 ?_
        refine r_lor (pc := 184) dX11_bitsOf_184 ?_
        cases h
        exact r_lret dX11_bitsOf_185
      · have h := ie h c
        refine r_lload (pc := 158) dX11_bitsOf_158 0 rfl ?_
        refine r_sipush (pc := 160) dX11_bitsOf_160 kc_sipush_m1022 ?_
        refine r_iload (pc := 163) dX11_bitsOf_163 2 rfl ?_
        refine r_isub (pc := 165) dX11_bitsOf_165 ?_
        refine r_lshr (pc := 166) dX11_bitsOf_166 ?_
        cases h
        exact r_lret dX11_bitsOf_167
    · have h := ie h c
      refine r_dload_n (pc := 105) dX11_bitsOf_105 rfl 0 rfl ?_
      refine r_dconst1 (pc := 106) dX11_bitsOf_106 ?_
      refine r_iconst (pc := 107) dX11_bitsOf_107 kc_iconst_1 ?_
      refine r_iload (pc := 108) dX11_bitsOf_108 2 rfl ?_
      refine r_isub (pc := 110) dX11_bitsOf_110 ?_
      obtain ⟨r8, hc9, h⟩ := ob h
      refine r_callS1 (pc := 111) (av := [vD (FP.dconst1), vI ((1 : Int32) - x5)]) (S := [vD x2]) dX11_bitsOf_111 (kX11_scaled hc9) mkX11_575 mwX11_scaled rfl ⟨Nat.le_of_ble_eq_true rfl, Nat.le_of_ble_eq_true rfl⟩ (Nat.le_of_ble_eq_true rfl) ⟨Nat.le_refl _, Nat.le_refl _⟩ (fun b => b) ?_
      refine r_dcmp (pc := 114) dX11_bitsOf_114 ?_
      refine r_ifge (pc := 115) (tgt := 132) dX11_bitsOf_115 rfl (fun c => ?_) (fun c => ?_)
      · have h := it h c
        refine r_iload (pc := 132) dX11_bitsOf_132 2 rfl ?_
        refine r_iconst (pc := 134) dX11_bitsOf_134 kc_iconst_2 ?_
        refine r_idiv (pc := 135) dX11_bitsOf_135 (by decide) ?_
        refine r_istore (pc := 136) (L' := [(5, vI (x5 / (2 : Int32))), (2, vD x2), (4, vI x4)]) dX11_bitsOf_136 (by decide) rfl ?_
        refine r_goto (pc := 138) (tgt := 100) dX11_bitsOf_138 rfl ?_
        refine r_sub [1, 2, 0] rfl ?_
        exact ih _ _ _ h
      · have h := ie h c
        refine r_dload_n (pc := 118) dX11_bitsOf_118 rfl 0 rfl ?_
        refine r_iload (pc := 119) dX11_bitsOf_119 2 rfl ?_
        obtain ⟨r11, hc12, h⟩ := ob h
        refine r_callS1 (pc := 121) (av := [vD x2, vI x5]) (S := []) dX11_bitsOf_121 (kX11_scaled hc12) mkX11_575 mwX11_scaled rfl ⟨Nat.le_of_ble_eq_true rfl, Nat.le_of_ble_eq_true rfl⟩ (Nat.le_of_ble_eq_true rfl) ⟨Nat.le_refl _, Nat.le_refl _⟩ (fun b => b) ?_
        refine r_dstore_n (pc := 124) (L' := [(2, vD r11), (4, vI x4), (5, vI x5)]) dX11_bitsOf_124 rfl (by decide) rfl ?_
        refine r_iload (pc := 125) dX11_bitsOf_125 1 rfl ?_
        refine r_iload (pc := 127) dX11_bitsOf_127 2 rfl ?_
        refine r_isub (pc := 129) dX11_bitsOf_129 ?_
        refine r_istore (pc := 130) (L' := [(4, vI (x4 - x5)), (2, vD r11), (5, vI x5)]) dX11_bitsOf_130 (by decide) rfl ?_
        refine r_iload (pc := 132) dX11_bitsOf_132 2 rfl ?_
        refine r_iconst (pc := 134) dX11_bitsOf_134 kc_iconst_2 ?_
        refine r_idiv (pc := 135) dX11_bitsOf_135 (by decide) ?_
        refine r_istore (pc := 136) (L' := [(5, vI (x5 / (2 : Int32))), (4, vI (x4 - x5)), (2, vD r11)]) dX11_bitsOf_136 (by decide) rfl ?_
        refine r_goto (pc := 138) (tgt := 100) dX11_bitsOf_138 rfl ?_
        refine r_sub [2, 1, 0] rfl ?_
        exact ih _ _ _ h
def fX11_bitsOf_l29   : Nat → (UInt64) → (Int32) → (Int32) → Option ((Int64))
  | 0, _, _, _ => none
  | n + 1, x2, x4, x5 =>
    if x5 ≤ 0 then
      (fX11_scaled (FP.dconst1) (-511 : Int32)).bind fun r3 =>
      if 0 ≤ (Op.cmpValue (FP.dcmp x2 r3) .g) then
        fX11_bitsOf_l100 FUx x2 x4 (512 : Int32)
      else
        (fX11_scaled x2 (512 : Int32)).bind fun r15 =>
        let v17 := x4 + (-512 : Int32)
        fX11_bitsOf_l100 FUx r15 v17 (512 : Int32)
    else
      (fX11_scaled (FP.dconst1) x5).bind fun r18 =>
      if (Op.cmpValue (FP.dcmp x2 r18) .l) < 0 then
        let v20 := (x5 / (2 : Int32))
        fX11_bitsOf_l29 n x2 x4 v20
      else
        (fX11_scaled x2 (-x5)).bind fun r21 =>
        let v23 := (x4 + x5)
        let v24 := (x5 / (2 : Int32))
        fX11_bitsOf_l29 n r21 v23 v24
theorem wX11_bitsOf_l29 {G : Gx} {l : Launch} {σ : Shp} {I : Nat → Nat → Int32} {J : Nat → Nat → Int64} {D : Nat → Nat → UInt64} {R : Nat → Nat → Option Nat} {r9 : Int64} : ∀ (n : Nat) (x2 : UInt64) (x4 : Int32) (x5 : Int32), fX11_bitsOf_l29 n x2 x4 x5 = some r9 → WX11_bitsOf G l σ (σ, I, J, D, R) (some (vL r9)) (σ, I, J, D, R) 29 [(2, vD x2), (4, vI x4), (5, vI x5)] [] := by
  intro n
  induction n with
  | zero =>
    intro x2 x4 x5 h
    have h : none = some _ := h
    cases h
  | succ n ih =>
    intro x2 x4 x5 h
    rw [fX11_bitsOf_l29] at h
    refine r_iload (pc := 29) dX11_bitsOf_29 2 rfl ?_
    refine r_if_le (pc := 31) (tgt := 69) dX11_bitsOf_31 rfl (fun c => ?_) (fun c => ?_)
    · have h := it h c
      refine r_dload_n (pc := 69) dX11_bitsOf_69 rfl 0 rfl ?_
      refine r_dconst1 (pc := 70) dX11_bitsOf_70 ?_
      refine r_sipush (pc := 71) dX11_bitsOf_71 kc_sipush_m511 ?_
      obtain ⟨r3, hc4, h⟩ := ob h
      refine r_callS1 (pc := 74) (av := [vD (FP.dconst1), vI (-511 : Int32)]) (S := [vD x2]) dX11_bitsOf_74 (kX11_scaled hc4) mkX11_575 mwX11_scaled rfl ⟨Nat.le_of_ble_eq_true rfl, Nat.le_of_ble_eq_true rfl⟩ (Nat.le_of_ble_eq_true rfl) ⟨Nat.le_refl _, Nat.le_refl _⟩ (fun b => b) ?_
      refine r_dcmp (pc := 77) dX11_bitsOf_77 ?_
      refine r_ifge (pc := 78) (tgt := 95) dX11_bitsOf_78 rfl (fun c => ?_) (fun c => ?_)
      · have h := it h c
        refine r_sipush (pc := 95) dX11_bitsOf_95 kc_sipush_512 ?_
        refine r_istore (pc := 98) (L' := [(5, vI (512 : Int32)), (2, vD x2), (4, vI x4)]) dX11_bitsOf_98 (by decide) rfl ?_
        refine r_sub [1, 2, 0] rfl ?_
        exact wX11_bitsOf_l100 _ _ _ _ h
      · have h := ie h c
        refine r_dload_n (pc := 81) dX11_bitsOf_81 rfl 0 rfl ?_
        refine r_sipush (pc := 82) dX11_bitsOf_82 kc_sipush_512 ?_
        obtain ⟨r15, hc16, h⟩ := ob h
        refine r_callS1 (pc := 85) (av := [vD x2, vI (512 : Int32)]) (S := []) dX11_bitsOf_85 (kX11_scaled hc16) mkX11_575 mwX11_scaled rfl ⟨Nat.le_of_ble_eq_true rfl, Nat.le_of_ble_eq_true rfl⟩ (Nat.le_of_ble_eq_true rfl) ⟨Nat.le_refl _, Nat.le_refl _⟩ (fun b => b) ?_
        refine r_dstore_n (pc := 88) (L' := [(2, vD r15), (4, vI x4), (5, vI x5)]) dX11_bitsOf_88 rfl (by decide) rfl ?_
        refine r_iincw (pc := 89) (v := (x4 + (-512 : Int32))) (L' := [(4, vI (x4 + (-512 : Int32))), (2, vD r15), (5, vI x5)]) dX11_bitsOf_89 1 rfl (kc_inc_m512 _) (by decide) rfl ?_
        refine r_sipush (pc := 95) dX11_bitsOf_95 kc_sipush_512 ?_
        refine r_istore (pc := 98) (L' := [(5, vI (512 : Int32)), (4, vI (x4 + (-512 : Int32))), (2, vD r15)]) dX11_bitsOf_98 (by decide) rfl ?_
        refine r_sub [2, 1, 0] rfl ?_
        exact wX11_bitsOf_l100 _ _ _ _ h
    · have h := ie h c
      refine r_dload_n (pc := 34) dX11_bitsOf_34 rfl 0 rfl ?_
      refine r_dconst1 (pc := 35) dX11_bitsOf_35 ?_
      refine r_iload (pc := 36) dX11_bitsOf_36 2 rfl ?_
      obtain ⟨r18, hc19, h⟩ := ob h
      refine r_callS1 (pc := 38) (av := [vD (FP.dconst1), vI x5]) (S := [vD x2]) dX11_bitsOf_38 (kX11_scaled hc19) mkX11_575 mwX11_scaled rfl ⟨Nat.le_of_ble_eq_true rfl, Nat.le_of_ble_eq_true rfl⟩ (Nat.le_of_ble_eq_true rfl) ⟨Nat.le_refl _, Nat.le_refl _⟩ (fun b => b) ?_
      refine r_dcmp (pc := 41) dX11_bitsOf_41 ?_
      refine r_if_lt (pc := 42) (tgt := 60) dX11_bitsOf_42 rfl (fun c => ?_) (fun c => ?_)
      · have h := it h c
        refine r_iload (pc := 60) dX11_bitsOf_60 2 rfl ?_
        refine r_iconst (pc := 62) dX11_bitsOf_62 kc_iconst_2 ?_
        refine r_idiv (pc := 63) dX11_bitsOf_63 (by decide) ?_
        refine r_istore (pc := 64) (L' := [(5, vI (x5 / (2 : Int32))), (2, vD x2), (4, vI x4)]) dX11_bitsOf_64 (by decide) rfl ?_
        refine r_goto (pc := 66) (tgt := 29) dX11_bitsOf_66 rfl ?_
        refine r_sub [1, 2, 0] rfl ?_
        exact ih _ _ _ h
      · have h := ie h c
        refine r_dload_n (pc := 45) dX11_bitsOf_45 rfl 0 rfl ?_
        refine r_iload (pc := 46) dX11_bitsOf_46 2 rfl ?_
        refine r_ineg (pc := 48) dX11_bitsOf_48 ?_
        obtain ⟨r21, hc22, h⟩ := ob h
        refine r_callS1 (pc := 49) (av := [vD x2, vI (-x5)]) (S := []) dX11_bitsOf_49 (kX11_scaled hc22) mkX11_575 mwX11_scaled rfl ⟨Nat.le_of_ble_eq_true rfl, Nat.le_of_ble_eq_true rfl⟩ (Nat.le_of_ble_eq_true rfl) ⟨Nat.le_refl _, Nat.le_refl _⟩ (fun b => b) ?_
        refine r_dstore_n (pc := 52) (L' := [(2, vD r21), (4, vI x4), (5, vI x5)]) dX11_bitsOf_52 rfl (by decide) rfl ?_
        refine r_iload (pc := 53) dX11_bitsOf_53 1 rfl ?_
        refine r_iload (pc := 55) dX11_bitsOf_55 2 rfl ?_
        refine r_iadd (pc := 57) dX11_bitsOf_57 ?_
        refine r_istore (pc := 58) (L' := [(4, vI (x4 + x5)), (2, vD r21), (5, vI x5)]) dX11_bitsOf_58 (by decide) rfl ?_
        refine r_iload (pc := 60) dX11_bitsOf_60 2 rfl ?_
        refine r_iconst (pc := 62) dX11_bitsOf_62 kc_iconst_2 ?_
        refine r_idiv (pc := 63) dX11_bitsOf_63 (by decide) ?_
        refine r_istore (pc := 64) (L' := [(5, vI (x5 / (2 : Int32))), (4, vI (x4 + x5)), (2, vD r21)]) dX11_bitsOf_64 (by decide) rfl ?_
        refine r_goto (pc := 66) (tgt := 29) dX11_bitsOf_66 rfl ?_
        refine r_sub [2, 1, 0] rfl ?_
        exact ih _ _ _ h
def fX11_bitsOf  (x0 : UInt64) : Option ((Int64)) :=
  if (Op.cmpValue (FP.dcmp x0 (FP.dconst0)) .l) = 0 then
    some (0 : Int64)
  else
    (fX11_isEndless x0).bind fun r1 =>
    if r1 = 0 then
      fX11_bitsOf_l29 FUx x0 (0 : Int32) (512 : Int32)
    else
      some (9218868437227405312 : Int64)
theorem kX11_bitsOf {G : Gx} {l : Launch} {σ : Shp} {I : Nat → Nat → Int32} {J : Nat → Nat → Int64} {D : Nat → Nat → UInt64} {R : Nat → Nat → Option Nat} {x0 : UInt64} {r9 : Int64} (h : fX11_bitsOf x0 = some r9) : Con G l yX11_bitsOf cX11_bitsOf 7 (some .long) 1 28 [vD x0] (σ, I, J, D, R) (σ, I, J, D, R) (some (vL r9)) := by
  unfold fX11_bitsOf at h
  refine Con.mk (by decide +kernel) rfl (Nat.le_of_ble_eq_true rfl) ?_
  show WX11_bitsOf G l σ (σ, I, J, D, R) (some (vL r9)) (σ, I, J, D, R) 0 _ []
  refine r_dload_n (pc := 0) dX11_bitsOf_0 rfl 0 rfl ?_
  refine r_dconst0 (pc := 1) dX11_bitsOf_1 ?_
  refine r_dcmp (pc := 2) dX11_bitsOf_2 ?_
  refine r_ifne (pc := 3) (tgt := 8) dX11_bitsOf_3 rfl (fun c => ?_) (fun c => ?_)
  · have h := ie h c
    refine r_dload_n (pc := 8) dX11_bitsOf_8 rfl 0 rfl ?_
    obtain ⟨r1, hc2, h⟩ := ob h
    refine r_callS1 (pc := 9) (av := [vD x0]) (S := []) dX11_bitsOf_9 (kX11_isEndless hc2) mkX11_561 mwX11_isEndless rfl ⟨Nat.le_of_ble_eq_true rfl, Nat.le_of_ble_eq_true rfl⟩ (Nat.le_of_ble_eq_true rfl) ⟨Nat.le_refl _, Nat.le_refl _⟩ (fun b => b) ?_
    refine r_if_eq (pc := 12) (tgt := 19) dX11_bitsOf_12 rfl (fun c => ?_) (fun c => ?_)
    · have h := it h c
      refine r_dload_n (pc := 19) dX11_bitsOf_19 rfl 0 rfl ?_
      refine r_dstore_n (pc := 20) (L' := [(2, vD x0), (0, vD x0)]) dX11_bitsOf_20 rfl (by decide) rfl ?_
      refine r_iconst (pc := 21) dX11_bitsOf_21 kc_iconst_0 ?_
      refine r_istore (pc := 22) (L' := [(4, vI (0 : Int32)), (2, vD x0), (0, vD x0)]) dX11_bitsOf_22 (by decide) rfl ?_
      refine r_sipush (pc := 24) dX11_bitsOf_24 kc_sipush_512 ?_
      refine r_istore (pc := 27) (L' := [(5, vI (512 : Int32)), (4, vI (0 : Int32)), (2, vD x0), (0, vD x0)]) dX11_bitsOf_27 (by decide) rfl ?_
      refine r_sub [2, 1, 0] rfl ?_
      exact wX11_bitsOf_l29 _ _ _ _ h
    · have h := ie h c
      refine r_ldc2 (pc := 15) dX11_bitsOf_15 clX11_534 ?_
      cases h
      exact r_lret dX11_bitsOf_18
  · have h := it h c
    refine r_lconst (pc := 6) dX11_bitsOf_6 kc_lconst_0 ?_
    cases h
    exact r_lret dX11_bitsOf_7
abbrev WX11_meanBits (G : Gx) (l : Launch) (σ0 : Shp) (X1 : Stt) (rv : Option SV) : Stt → Nat → List (Nat × SV) → List SV → Prop := Wm G l yX11_meanBits cX11_meanBits 7 (some .long) (fun _ => True) (rmx 2 54 σ0 X1.1) σ0 (Qmx G σ0 X1 rv)
def fX11_meanBits_b89  (σ : Shp) (J : Nat → Nat → Int64) (R : Nat → Nat → Option Nat) (x1 : Int32) (x2 : UInt64) : Option ((Int64)) :=
  if (1 : Int32) ≤ x1 then
    if 0 ≤ (Op.cmpValue (FP.dcmp x2 (FP.dconst0)) .g) then
      if (FP.ddiv x2 (FP.i2d x1)) &&& 0x7fffffffffffffff ≤ 0x7ff0000000000000 then
      (fX11_bitsOf (FP.ddiv x2 (FP.i2d x1))).bind fun r3 =>
      some r3
      else none
    else
      if (FP.ddiv (FP.dneg x2) (FP.i2d x1)) &&& 0x7fffffffffffffff ≤ 0x7ff0000000000000 then
      (fX11_bitsOf (FP.ddiv (FP.dneg x2) (FP.i2d x1))).bind fun r6 =>
      some ((-9223372036854775808 : Int64) ||| r6)
      else none
  else
    some (9221120237041090560 : Int64)
theorem wX11_meanBits_b89 {G : Gx} {l : Launch} {σ : Shp} {I : Nat → Nat → Int32} {J : Nat → Nat → Int64} {D : Nat → Nat → UInt64} {R : Nat → Nat → Option Nat} {r9 : Int64} {x1 : Int32} {x2 : UInt64} (h : fX11_meanBits_b89 σ J R x1 x2 = some r9) : WX11_meanBits G l σ (σ, I, J, D, R) (some (vL r9)) (σ, I, J, D, R) 89 [(1, vI x1), (2, vD x2)] [] := by
  unfold fX11_meanBits_b89 at h
  refine r_iload_n (pc := 89) dX11_meanBits_89 rfl 0 rfl ?_
  refine r_iconst (pc := 90) dX11_meanBits_90 kc_iconst_1 ?_
  refine r_icmp_ge (pc := 91) (tgt := 98) dX11_meanBits_91 rfl (fun c => ?_) (fun c => ?_)
  · have h := it h c
    refine r_dload_n (pc := 98) dX11_meanBits_98 rfl 1 rfl ?_
    refine r_dconst0 (pc := 99) dX11_meanBits_99 ?_
    refine r_dcmp (pc := 100) dX11_meanBits_100 ?_
    refine r_ifge (pc := 101) (tgt := 119) dX11_meanBits_101 rfl (fun c => ?_) (fun c => ?_)
    · have h := it h c
      refine r_dload_n (pc := 119) dX11_meanBits_119 rfl 1 rfl ?_
      refine r_iload_n (pc := 120) dX11_meanBits_120 rfl 0 rfl ?_
      refine r_i2d (pc := 121) dX11_meanBits_121 ?_
      obtain ⟨g2, h⟩ := gd h
      refine r_ddiv (pc := 122) dX11_meanBits_122 g2 ?_
      obtain ⟨r3, hc4, h⟩ := ob h
      refine r_callS1 (pc := 123) (av := [vD (FP.ddiv x2 (FP.i2d x1))]) (S := []) dX11_meanBits_123 (kX11_bitsOf hc4) mkX11_565 mwX11_bitsOf rfl ⟨Nat.le_of_ble_eq_true rfl, Nat.le_of_ble_eq_true rfl⟩ (Nat.le_of_ble_eq_true rfl) ⟨Nat.le_refl _, Nat.le_refl _⟩ (fun b => b) ?_
      cases h
      exact r_lret dX11_meanBits_126
    · have h := ie h c
      refine r_ldc2 (pc := 104) dX11_meanBits_104 clX11_540 ?_
      refine r_dload_n (pc := 107) dX11_meanBits_107 rfl 1 rfl ?_
      refine r_dneg (pc := 108) dX11_meanBits_108 ?_
      refine r_iload_n (pc := 109) dX11_meanBits_109 rfl 0 rfl ?_
      refine r_i2d (pc := 110) dX11_meanBits_110 ?_
      obtain ⟨g5, h⟩ := gd h
      refine r_ddiv (pc := 111) dX11_meanBits_111 g5 ?_
      obtain ⟨r6, hc7, h⟩ := ob h
      refine r_callS1 (pc := 112) (av := [vD (FP.ddiv (FP.dneg x2) (FP.i2d x1))]) (S := [vL (-9223372036854775808 : Int64)]) dX11_meanBits_112 (kX11_bitsOf hc7) mkX11_565 mwX11_bitsOf rfl ⟨Nat.le_of_ble_eq_true rfl, Nat.le_of_ble_eq_true rfl⟩ (Nat.le_of_ble_eq_true rfl) ⟨Nat.le_refl _, Nat.le_refl _⟩ (fun b => b) ?_
      refine r_lor (pc := 115) dX11_meanBits_115 ?_
      refine r_goto (pc := 116) (tgt := 126) dX11_meanBits_116 rfl ?_
      cases h
      exact r_lret dX11_meanBits_126
  · have h := ie h c
    refine r_ldc2 (pc := 94) dX11_meanBits_94 clX11_420 ?_
    cases h
    exact r_lret dX11_meanBits_97
def fX11_meanBits_b59 (q5 : (Int32) → (UInt64) → (Int32) → (Option ((Int64)))) (σ : Shp) (J : Nat → Nat → Int64) (R : Nat → Nat → Option Nat) (t : Nat) (x1 : Int32) (x2 : UInt64) (x4 : Int32) (x5 : UInt64) (s0 : Int32) : Option ((Int64)) :=
  if 0 ≤ (Op.cmpValue (FP.dcmp x5 (FP.dconst0)) .g) then
    if s0 = (0 : Int32) then
      if (FP.dadd x2 x5) &&& 0x7fffffffffffffff ≤ 0x7ff0000000000000 then
      let v25 := (FP.dadd x2 x5)
      let v26 := x4 + (1 : Int32)
      q5 x1 v25 v26
      else none
    else
      some (9221120237041090560 : Int64)
  else
    if s0 = (1 : Int32) then
      if (FP.dadd x2 x5) &&& 0x7fffffffffffffff ≤ 0x7ff0000000000000 then
      let v28 := (FP.dadd x2 x5)
      let v29 := x4 + (1 : Int32)
      q5 x1 v28 v29
      else none
    else
      some (9221120237041090560 : Int64)
theorem wX11_meanBits_b59 {G : Gx} {l : Launch} {σ : Shp} {I : Nat → Nat → Int32} {J : Nat → Nat → Int64} {D : Nat → Nat → UInt64} {R : Nat → Nat → Option Nat} {t : Nat} {r9 : Int64} {q5 : (Int32) → (UInt64) → (Int32) → (Option ((Int64)))} {x1 : Int32} {x2 : UInt64} {x4 : Int32} {x5 : UInt64} {s0 : Int32} (hq5 : ∀ (x1 : Int32) (x2 : UInt64) (x4 : Int32), q5 x1 x2 x4 = some r9 → WX11_meanBits G l σ (σ, I, J, D, R) (some (vL r9)) (σ, I, J, D, R) 5 [(0, vR (some t)), (1, vI x1), (2, vD x2), (4, vI x4)] []) (h : fX11_meanBits_b59 q5 σ J R t x1 x2 x4 x5 s0 = some r9) : WX11_meanBits G l σ (σ, I, J, D, R) (some (vL r9)) (σ, I, J, D, R) 59 [(0, vR (some t)), (1, vI x1), (2, vD x2), (4, vI x4), (5, vD x5)] [vI s0] := by
  unfold fX11_meanBits_b59 at h
  refine r_dload (pc := 59) dX11_meanBits_59 4 rfl ?_
  refine r_dconst0 (pc := 61) dX11_meanBits_61 ?_
  refine r_dcmp (pc := 62) dX11_meanBits_62 ?_
  refine r_ifge (pc := 63) (tgt := 70) dX11_meanBits_63 rfl (fun c => ?_) (fun c => ?_)
  · have h := it h c
    refine r_iconst (pc := 70) dX11_meanBits_70 kc_iconst_0 ?_
    refine r_icmp_eq (pc := 71) (tgt := 78) dX11_meanBits_71 rfl (fun c => ?_) (fun c => ?_)
    · have h := it h c
      refine r_dload_n (pc := 78) dX11_meanBits_78 rfl 2 rfl ?_
      refine r_dload (pc := 79) dX11_meanBits_79 4 rfl ?_
      obtain ⟨g24, h⟩ := gd h
      refine r_dadd (pc := 81) dX11_meanBits_81 g24 ?_
      refine r_dstore_n (pc := 82) (L' := [(2, vD (FP.dadd x2 x5)), (0, vR (some t)), (1, vI x1), (4, vI x4), (5, vD x5)]) dX11_meanBits_82 rfl (by decide) rfl ?_
      refine r_iinc (pc := 83) (v := (x4 + (1 : Int32))) (L' := [(4, vI (x4 + (1 : Int32))), (2, vD (FP.dadd x2 x5)), (0, vR (some t)), (1, vI x1), (5, vD x5)]) dX11_meanBits_83 3 rfl (kc_inc_1 _) (by decide) rfl ?_
      refine r_goto (pc := 86) (tgt := 5) dX11_meanBits_86 rfl ?_
      refine r_sub [2, 3, 1, 0] rfl ?_
      exact hq5 _ _ _ h
    · have h := ie h c
      refine r_ldc2 (pc := 74) dX11_meanBits_74 clX11_420 ?_
      cases h
      exact r_lret dX11_meanBits_77
  · have h := ie h c
    refine r_iconst (pc := 66) dX11_meanBits_66 kc_iconst_1 ?_
    refine r_goto (pc := 67) (tgt := 71) dX11_meanBits_67 rfl ?_
    refine r_icmp_eq (pc := 71) (tgt := 78) dX11_meanBits_71 rfl (fun c => ?_) (fun c => ?_)
    · have h := it h c
      refine r_dload_n (pc := 78) dX11_meanBits_78 rfl 2 rfl ?_
      refine r_dload (pc := 79) dX11_meanBits_79 4 rfl ?_
      obtain ⟨g27, h⟩ := gd h
      refine r_dadd (pc := 81) dX11_meanBits_81 g27 ?_
      refine r_dstore_n (pc := 82) (L' := [(2, vD (FP.dadd x2 x5)), (0, vR (some t)), (1, vI x1), (4, vI x4), (5, vD x5)]) dX11_meanBits_82 rfl (by decide) rfl ?_
      refine r_iinc (pc := 83) (v := (x4 + (1 : Int32))) (L' := [(4, vI (x4 + (1 : Int32))), (2, vD (FP.dadd x2 x5)), (0, vR (some t)), (1, vI x1), (5, vD x5)]) dX11_meanBits_83 3 rfl (kc_inc_1 _) (by decide) rfl ?_
      refine r_goto (pc := 86) (tgt := 5) dX11_meanBits_86 rfl ?_
      refine r_sub [2, 3, 1, 0] rfl ?_
      exact hq5 _ _ _ h
    · have h := ie h c
      refine r_ldc2 (pc := 74) dX11_meanBits_74 clX11_420 ?_
      cases h
      exact r_lret dX11_meanBits_77
def fX11_meanBits_l5  (σ : Shp) (J : Nat → Nat → Int64) (R : Nat → Nat → Option Nat) (t : Nat) : Nat → (Int32) → (UInt64) → (Int32) → Option ((Int64))
  | 0, _, _, _ => none
  | n + 1, x1, x2, x4 =>
    if x1 ≤ x4 then
      fX11_meanBits_b89 σ J R x1 x2
    else
      if kdx σ t = 12 then
      ((R t 10) : Option Nat).bind fun a9 =>
      if kdx σ a9 = 21 then
      if (Int32.ofNat (lnx σ a9)) ≤ x4 then
        fX11_meanBits_b89 σ J R x1 x2
      else
        if ¬ (x4 < 0 ∨ lnx σ a9 ≤ Int32.toNatClampNeg x4) then
        (fX11_realOf (J a9 (Int32.toNatClampNeg x4))).bind fun r12 =>
        (fX11_isEndless x2).bind fun r14 =>
        if r14 = 0 then
          if (FP.dadd x2 r12) &&& 0x7fffffffffffffff ≤ 0x7ff0000000000000 then
          let v17 := (FP.dadd x2 r12)
          let v18 := x4 + (1 : Int32)
          fX11_meanBits_l5 σ J R t n x1 v17 v18
          else none
        else
          (fX11_isEndless r12).bind fun r19 =>
          if r19 = 0 then
            if (FP.dadd x2 r12) &&& 0x7fffffffffffffff ≤ 0x7ff0000000000000 then
            let v22 := (FP.dadd x2 r12)
            let v23 := x4 + (1 : Int32)
            fX11_meanBits_l5 σ J R t n x1 v22 v23
            else none
          else
            if 0 ≤ (Op.cmpValue (FP.dcmp x2 (FP.dconst0)) .g) then
              fX11_meanBits_b59 (fX11_meanBits_l5 σ J R t n) σ J R t x1 x2 x4 r12 (0 : Int32)
            else
              fX11_meanBits_b59 (fX11_meanBits_l5 σ J R t n) σ J R t x1 x2 x4 r12 (1 : Int32)
        else none
      else none
      else none
theorem wX11_meanBits_l5 {G : Gx} {l : Launch} {σ : Shp} {I : Nat → Nat → Int32} {J : Nat → Nat → Int64} {D : Nat → Nat → UInt64} {R : Nat → Nat → Option Nat} {t : Nat} {r9 : Int64} : ∀ (n : Nat) (x1 : Int32) (x2 : UInt64) (x4 : Int32), fX11_meanBits_l5 σ J R t n x1 x2 x4 = some r9 → WX11_meanBits G l σ (σ, I, J, D, R) (some (vL r9)) (σ, I, J, D, R) 5 [(0, vR (some t)), (1, vI x1), (2, vD x2), (4, vI x4)] [] := by
  intro n
  induction n with
  | zero =>
    intro x1 x2 x4 h
    have h : none = some _ := h
    cases h
  | succ n ih =>
    intro x1 x2 x4 h
    rw [fX11_meanBits_l5] at h
    refine r_iload (pc := 5) dX11_meanBits_5 3 rfl ?_
    refine r_iload_n (pc := 7) dX11_meanBits_7 rfl 1 rfl ?_
    refine r_icmp_ge (pc := 8) (tgt := 89) dX11_meanBits_8 rfl (fun c => ?_) (fun c => ?_)
    · have h := it h c
      refine r_sub [1, 2] rfl ?_
      exact wX11_meanBits_b89 h
    · have h := ie h c
      refine r_iload (pc := 11) dX11_meanBits_11 3 rfl ?_
      refine r_aload_n (pc := 13) dX11_meanBits_13 rfl 0 rfl ?_
      obtain ⟨g8, h⟩ := gd h
      obtain ⟨a9, ha9, h⟩ := ob h
      refine r_getS (pc := 14) dX11_meanBits_14 fgX11_69 rfl g8 ha9 ?_
      obtain ⟨g10, h⟩ := gd h
      refine r_alen (pc := 17) dX11_meanBits_17 g10 (by decide) ?_
      refine r_icmp_ge (pc := 18) (tgt := 89) dX11_meanBits_18 rfl (fun c => ?_) (fun c => ?_)
      · have h := it h c
        refine r_sub [1, 2] rfl ?_
        exact wX11_meanBits_b89 h
      · have h := ie h c
        refine r_aload_n (pc := 21) dX11_meanBits_21 rfl 0 rfl ?_
        refine r_getS (pc := 22) dX11_meanBits_22 fgX11_69 rfl g8 ha9 ?_
        refine r_iload (pc := 25) dX11_meanBits_25 3 rfl ?_
        obtain ⟨g11, h⟩ := gd h
        refine r_laload (pc := 27) dX11_meanBits_27 g10 g11 ?_
        obtain ⟨r12, hc13, h⟩ := ob h
        refine r_callS1 (pc := 28) (av := [vL (J a9 (Int32.toNatClampNeg x4))]) (S := []) dX11_meanBits_28 (kX11_realOf hc13) mkX11_353 mwX11_realOf rfl ⟨Nat.le_of_ble_eq_true rfl, Nat.le_of_ble_eq_true rfl⟩ (Nat.le_of_ble_eq_true rfl) ⟨Nat.le_refl _, Nat.le_refl _⟩ (fun b => b) ?_
        refine r_dstore (pc := 31) (L' := [(5, vD r12), (0, vR (some t)), (1, vI x1), (2, vD x2), (4, vI x4)]) dX11_meanBits_31 (by decide) rfl ?_
        refine r_dload_n (pc := 33) dX11_meanBits_33 rfl 3 rfl ?_
        obtain ⟨r14, hc15, h⟩ := ob h
        refine r_callS1 (pc := 34) (av := [vD x2]) (S := []) dX11_meanBits_34 (kX11_isEndless hc15) mkX11_561 mwX11_isEndless rfl ⟨Nat.le_of_ble_eq_true rfl, Nat.le_of_ble_eq_true rfl⟩ (Nat.le_of_ble_eq_true rfl) ⟨Nat.le_refl _, Nat.le_refl _⟩ (fun b => b) ?_
        refine r_if_eq (pc := 37) (tgt := 78) dX11_meanBits_37 rfl (fun c => ?_) (fun c => ?_)
        · have h := it h c
          refine r_dload_n (pc := 78) dX11_meanBits_78 rfl 3 rfl ?_
          refine r_dload (pc := 79) dX11_meanBits_79 0 rfl ?_
          obtain ⟨g16, h⟩ := gd h
          refine r_dadd (pc := 81) dX11_meanBits_81 g16 ?_
          refine r_dstore_n (pc := 82) (L' := [(2, vD (FP.dadd x2 r12)), (5, vD r12), (0, vR (some t)), (1, vI x1), (4, vI x4)]) dX11_meanBits_82 rfl (by decide) rfl ?_
          refine r_iinc (pc := 83) (v := (x4 + (1 : Int32))) (L' := [(4, vI (x4 + (1 : Int32))), (2, vD (FP.dadd x2 r12)), (5, vD r12), (0, vR (some t)), (1, vI x1)]) dX11_meanBits_83 4 rfl (kc_inc_1 _) (by decide) rfl ?_
          refine r_goto (pc := 86) (tgt := 5) dX11_meanBits_86 rfl ?_
          refine r_sub [3, 4, 1, 0] rfl ?_
          exact ih _ _ _ h
        · have h := ie h c
          refine r_dload (pc := 40) dX11_meanBits_40 0 rfl ?_
          obtain ⟨r19, hc20, h⟩ := ob h
          refine r_callS1 (pc := 42) (av := [vD r12]) (S := []) dX11_meanBits_42 (kX11_isEndless hc20) mkX11_561 mwX11_isEndless rfl ⟨Nat.le_of_ble_eq_true rfl, Nat.le_of_ble_eq_true rfl⟩ (Nat.le_of_ble_eq_true rfl) ⟨Nat.le_refl _, Nat.le_refl _⟩ (fun b => b) ?_
          refine r_if_eq (pc := 45) (tgt := 78) dX11_meanBits_45 rfl (fun c => ?_) (fun c => ?_)
          · have h := it h c
            refine r_dload_n (pc := 78) dX11_meanBits_78 rfl 3 rfl ?_
            refine r_dload (pc := 79) dX11_meanBits_79 0 rfl ?_
            obtain ⟨g21, h⟩ := gd h
            refine r_dadd (pc := 81) dX11_meanBits_81 g21 ?_
            refine r_dstore_n (pc := 82) (L' := [(2, vD (FP.dadd x2 r12)), (5, vD r12), (0, vR (some t)), (1, vI x1), (4, vI x4)]) dX11_meanBits_82 rfl (by decide) rfl ?_
            refine r_iinc (pc := 83) (v := (x4 + (1 : Int32))) (L' := [(4, vI (x4 + (1 : Int32))), (2, vD (FP.dadd x2 r12)), (5, vD r12), (0, vR (some t)), (1, vI x1)]) dX11_meanBits_83 4 rfl (kc_inc_1 _) (by decide) rfl ?_
            refine r_goto (pc := 86) (tgt := 5) dX11_meanBits_86 rfl ?_
            refine r_sub [3, 4, 1, 0] rfl ?_
            exact ih _ _ _ h
          · have h := ie h c
            refine r_dload_n (pc := 48) dX11_meanBits_48 rfl 3 rfl ?_
            refine r_dconst0 (pc := 49) dX11_meanBits_49 ?_
            refine r_dcmp (pc := 50) dX11_meanBits_50 ?_
            refine r_ifge (pc := 51) (tgt := 58) dX11_meanBits_51 rfl (fun c => ?_) (fun c => ?_)
            · have h := it h c
              refine r_iconst (pc := 58) dX11_meanBits_58 kc_iconst_0 ?_
              refine r_sub [1, 2, 3, 4, 0] rfl ?_
              exact wX11_meanBits_b59 ih h
            · have h := ie h c
              refine r_iconst (pc := 54) dX11_meanBits_54 kc_iconst_1 ?_
              refine r_goto (pc := 55) (tgt := 59) dX11_meanBits_55 rfl ?_
              refine r_sub [1, 2, 3, 4, 0] rfl ?_
              exact wX11_meanBits_b59 ih h
def fX11_meanBits (σ : Shp) (J : Nat → Nat → Int64) (R : Nat → Nat → Option Nat) (t : Nat) (x1 : Int32) : Option ((Int64)) :=
  let v1 := FP.dconst0
  fX11_meanBits_l5 σ J R t FUx x1 v1 (0 : Int32)
theorem kX11_meanBits {G : Gx} {l : Launch} {σ : Shp} {I : Nat → Nat → Int32} {J : Nat → Nat → Int64} {D : Nat → Nat → UInt64} {R : Nat → Nat → Option Nat} {t : Nat} {x1 : Int32} {r9 : Int64} (h : fX11_meanBits σ J R t x1 = some r9) : Con G l yX11_meanBits cX11_meanBits 7 (some .long) 2 54 [vR (some t), vI x1] (σ, I, J, D, R) (σ, I, J, D, R) (some (vL r9)) := by
  unfold fX11_meanBits at h
  refine Con.mk (by decide +kernel) rfl (Nat.le_of_ble_eq_true rfl) ?_
  show WX11_meanBits G l σ (σ, I, J, D, R) (some (vL r9)) (σ, I, J, D, R) 0 _ []
  refine r_dconst0 (pc := 0) dX11_meanBits_0 ?_
  refine r_dstore_n (pc := 1) (L' := [(2, vD (FP.dconst0)), (0, vR (some t)), (1, vI x1)]) dX11_meanBits_1 rfl (by decide) rfl ?_
  refine r_iconst (pc := 2) dX11_meanBits_2 kc_iconst_0 ?_
  refine r_istore (pc := 3) (L' := [(4, vI (0 : Int32)), (2, vD (FP.dconst0)), (0, vR (some t)), (1, vI x1)]) dX11_meanBits_3 (by decide) rfl ?_
  refine r_sub [2, 3, 1, 0] rfl ?_
  exact wX11_meanBits_l5 _ _ _ _ h
abbrev WX11_real (G : Gx) (l : Launch) (σ0 : Shp) (X1 : Stt) (rv : Option SV) : Stt → Nat → List (Nat × SV) → List SV → Prop := Wm G l yX11_real cX11_real 8 (some .long) (fun _ => True) (rmx 5 119 σ0 X1.1) σ0 (Qmx G σ0 X1 rv)
def fX11_real_b12  (σ : Shp) (R : Nat → Nat → Option Nat) (t : Nat) (I : Nat → Nat → Int32) (J : Nat → Nat → Int64) (x1 : Int32) (x2 : Int32) (x3 : Int32) : Option ((Nat → Nat → Int32) × (Nat → Nat → Int64) × (Int64)) :=
  if (fX11_isBin x2) = 0 then
    some (I, J, (0 : Int64))
  else
    if x3 < 0 then
      some (I, J, (0 : Int64))
    else
      if x3 ≤ (3 : Int32) then
        if kdx σ t = 12 then
        ((R t 1) : Option Nat).bind fun a2 =>
        if kdx σ a2 = 26 then
        if ¬ (x2 < 0 ∨ lnx σ a2 ≤ Int32.toNatClampNeg x2) then
        let v5 := (R a2 (Int32.toNatClampNeg x2))
        (fX11_takenFault σ I v5 x1).bind fun r6 =>
        if r6 = 0 then
          onl v5
            (
              (fX11_fail σ I t r6).bind fun (I12, r13) =>
              some (I12, J, (0 : Int64)))
            (fun a11 =>
              (fX11_gatherNumbers σ J R t (some a11) x1).bind fun (J15, r16) =>
              if r16 = 0 then
                some (I, J15, (9221120237041090560 : Int64))
              else
                if x3 = (2 : Int32) then
                  (fX11_meanBits σ J15 R t r16).bind fun r29 =>
                  some (I, J15, r29)
                else
                  ((R t 10) : Option Nat).bind fun a18 =>
                  (fX11_sortByOrder σ J15 (some a18) r16).bind fun J19 =>
                  if x3 = 0 then
                    if kdx σ a18 = 21 then
                    if ¬ ((0 : Int32) < 0 ∨ lnx σ a18 ≤ Int32.toNatClampNeg (0 : Int32)) then
                    some (I, J19, (J19 a18 (Int32.toNatClampNeg (0 : Int32))))
                    else none
                    else none
                  else
                    if x3 = (1 : Int32) then
                      let v24 := (r16 - (1 : Int32))
                      if kdx σ a18 = 21 then
                      if ¬ (v24 < 0 ∨ lnx σ a18 ≤ Int32.toNatClampNeg v24) then
                      some (I, J19, (J19 a18 (Int32.toNatClampNeg v24)))
                      else none
                      else none
                    else
                      let v21 := ((r16 - (1 : Int32)) / (2 : Int32))
                      if kdx σ a18 = 21 then
                      if ¬ (v21 < 0 ∨ lnx σ a18 ≤ Int32.toNatClampNeg v21) then
                      some (I, J19, (J19 a18 (Int32.toNatClampNeg v21)))
                      else none
                      else none)
        else
          (fX11_fail σ I t r6).bind fun (I8, r9) =>
          some (I8, J, (0 : Int64))
        else none
        else none
        else none
      else
        some (I, J, (0 : Int64))
theorem wX11_real_b12 {G : Gx} {l : Launch} {σ : Shp} {I : Nat → Nat → Int32} {J : Nat → Nat → Int64} {D : Nat → Nat → UInt64} {R : Nat → Nat → Option Nat} {t : Nat} {I9 : Nat → Nat → Int32} {J9 : Nat → Nat → Int64} {r9 : Int64} {x1 : Int32} {x2 : Int32} {x3 : Int32} (h : fX11_real_b12 σ R t I J x1 x2 x3 = some (I9, J9, r9)) : WX11_real G l σ (σ, I9, J9, D, R) (some (vL r9)) (σ, I, J, D, R) 12 [(0, vR (some t)), (1, vI x1), (2, vI x2), (3, vI x3)] [] := by
  unfold fX11_real_b12 at h
  refine r_iload_n (pc := 12) dX11_real_12 rfl 2 rfl ?_
  refine r_callS1 (pc := 13) (av := [vI x2]) (S := []) dX11_real_13 (kX11_isBin rfl) mkX11_76 mwX11_isBin rfl ⟨Nat.le_of_ble_eq_true rfl, Nat.le_of_ble_eq_true rfl⟩ (Nat.le_of_ble_eq_true rfl) ⟨Nat.le_refl _, Nat.le_refl _⟩ (fun b => b) ?_
  refine r_if_eq (pc := 16) (tgt := 28) dX11_real_16 rfl (fun c => ?_) (fun c => ?_)
  · have h := it h c
    refine r_lconst (pc := 28) dX11_real_28 kc_lconst_0 ?_
    cases h
    exact r_lret dX11_real_29
  · have h := ie h c
    refine r_iload_n (pc := 19) dX11_real_19 rfl 3 rfl ?_
    refine r_if_lt (pc := 20) (tgt := 28) dX11_real_20 rfl (fun c => ?_) (fun c => ?_)
    · have h := it h c
      refine r_lconst (pc := 28) dX11_real_28 kc_lconst_0 ?_
      cases h
      exact r_lret dX11_real_29
    · have h := ie h c
      refine r_iload_n (pc := 23) dX11_real_23 rfl 3 rfl ?_
      refine r_iconst (pc := 24) dX11_real_24 kc_iconst_3 ?_
      refine r_icmp_le (pc := 25) (tgt := 30) dX11_real_25 rfl (fun c => ?_) (fun c => ?_)
      · have h := it h c
        refine r_aload_n (pc := 30) dX11_real_30 rfl 0 rfl ?_
        obtain ⟨g1, h⟩ := gd h
        obtain ⟨a2, ha2, h⟩ := ob h
        refine r_getS (pc := 31) dX11_real_31 fgX11_20 rfl g1 ha2 ?_
        refine r_iload_n (pc := 34) dX11_real_34 rfl 2 rfl ?_
        obtain ⟨g3, h⟩ := gd h
        obtain ⟨g4, h⟩ := gd h
        refine r_aaload (pc := 35) dX11_real_35 g3 (by decide) g4 ?_
        refine r_astore (pc := 36) (L' := [(4, vR (R a2 (Int32.toNatClampNeg x2))), (0, vR (some t)), (1, vI x1), (2, vI x2), (3, vI x3)]) dX11_real_36 (by decide) rfl ?_
        refine r_aload (pc := 38) dX11_real_38 0 rfl ?_
        refine r_iload_n (pc := 40) dX11_real_40 rfl 2 rfl ?_
        obtain ⟨r6, hc7, h⟩ := ob h
        refine r_callS1 (pc := 41) (av := [vR (R a2 (Int32.toNatClampNeg x2)), vI x1]) (S := []) dX11_real_41 (kX11_takenFault hc7) mkX11_267 mwX11_takenFault rfl ⟨Nat.le_of_ble_eq_true rfl, Nat.le_of_ble_eq_true rfl⟩ (Nat.le_of_ble_eq_true rfl) ⟨Nat.le_refl _, Nat.le_refl _⟩ (fun b => b) ?_
        refine r_istore (pc := 44) (L' := [(5, vI r6), (4, vR (R a2 (Int32.toNatClampNeg x2))), (0, vR (some t)), (1, vI x1), (2, vI x2), (3, vI x3)]) dX11_real_44 (by decide) rfl ?_
        refine r_iload (pc := 46) dX11_real_46 0 rfl ?_
        refine r_ifne (pc := 48) (tgt := 56) dX11_real_48 rfl (fun c => ?_) (fun c => ?_)
        · have h := ie h c
          refine r_aload_n (pc := 56) dX11_real_56 rfl 2 rfl ?_
          refine r_iload (pc := 57) dX11_real_57 0 rfl ?_
          obtain ⟨⟨I8, r9⟩, hc10, h⟩ := ob h
          refine r_callV1 (pc := 59) (av := [vI r6]) (S := []) dX11_real_59 (kX11_fail hc10) g1 rfl mkX11_87 mwX11_fail rfl ⟨Nat.le_of_ble_eq_true rfl, Nat.le_of_ble_eq_true rfl⟩ (Nat.le_of_ble_eq_true rfl) ⟨Nat.le_refl _, Nat.le_refl _⟩ (fun b => b) ?_
          refine r_pop (pc := 62) dX11_real_62 rfl ?_
          refine r_lconst (pc := 63) dX11_real_63 kc_lconst_0 ?_
          cases h
          exact r_lret dX11_real_64
        · have h := it h c
          refine r_aload (pc := 51) dX11_real_51 1 rfl ?_
          rcases onl_c h with ⟨ea11, h⟩ | ⟨a11, ha11, h⟩
          · refine r_ref0n ea11 ?_
            refine r_ifnonnull_n (pc := 53) dX11_real_53 ?_
            refine r_aload_n (pc := 56) dX11_real_56 rfl 2 rfl ?_
            refine r_iload (pc := 57) dX11_real_57 0 rfl ?_
            obtain ⟨⟨I12, r13⟩, hc14, h⟩ := ob h
            refine r_callV1 (pc := 59) (av := [vI r6]) (S := []) dX11_real_59 (kX11_fail hc14) g1 rfl mkX11_87 mwX11_fail rfl ⟨Nat.le_of_ble_eq_true rfl, Nat.le_of_ble_eq_true rfl⟩ (Nat.le_of_ble_eq_true rfl) ⟨Nat.le_refl _, Nat.le_refl _⟩ (fun b => b) ?_
            refine r_pop (pc := 62) dX11_real_62 rfl ?_
            refine r_lconst (pc := 63) dX11_real_63 kc_lconst_0 ?_
            cases h
            exact r_lret dX11_real_64
          · refine r_ref0 ha11 ?_
            refine r_ifnonnull_s (pc := 53) (tgt := 65) dX11_real_53 rfl ?_
            refine r_aload_n (pc := 65) dX11_real_65 rfl 2 rfl ?_
            refine r_aload (pc := 66) dX11_real_66 1 rfl ?_
            refine r_ref0 ha11 ?_
            refine r_iload_n (pc := 68) dX11_real_68 rfl 3 rfl ?_
            obtain ⟨⟨J15, r16⟩, hc17, h⟩ := ob h
            refine r_callV1 (pc := 69) (av := [vR (some a11), vI x1]) (S := []) dX11_real_69 (kX11_gatherNumbers hc17) g1 rfl mkX11_417 mwX11_gatherNumbers rfl ⟨Nat.le_of_ble_eq_true rfl, Nat.le_of_ble_eq_true rfl⟩ (Nat.le_of_ble_eq_true rfl) ⟨Nat.le_refl _, Nat.le_refl _⟩ (fun b => b) ?_
            refine r_istore (pc := 72) (L' := [(6, vI r16), (5, vI r6), (4, vR (R a2 (Int32.toNatClampNeg x2))), (0, vR (some t)), (1, vI x1), (2, vI x2), (3, vI x3)]) dX11_real_72 (by decide) rfl ?_
            refine r_iload (pc := 74) dX11_real_74 0 rfl ?_
            refine r_ifne (pc := 76) (tgt := 83) dX11_real_76 rfl (fun c => ?_) (fun c => ?_)
            · have h := ie h c
              refine r_iload_n (pc := 83) dX11_real_83 rfl 6 rfl ?_
              refine r_iconst (pc := 84) dX11_real_84 kc_iconst_2 ?_
              refine r_icmp_ne (pc := 85) (tgt := 95) dX11_real_85 rfl (fun c => ?_) (fun c => ?_)
              · have h := ie h c
                refine r_aload_n (pc := 95) dX11_real_95 rfl 3 rfl ?_
                obtain ⟨a18, ha18, h⟩ := ob h
                refine r_getS (pc := 96) dX11_real_96 fgX11_69 rfl g1 ha18 ?_
                refine r_iload (pc := 99) dX11_real_99 0 rfl ?_
                obtain ⟨J19, hc20, h⟩ := ob h
                refine r_callS0 (pc := 101) (av := [vR (some a18), vI r16]) (S := []) dX11_real_101 (kX11_sortByOrder hc20) mkX11_426 mwX11_sortByOrder rfl ⟨Nat.le_of_ble_eq_true rfl, Nat.le_of_ble_eq_true rfl⟩ (Nat.le_of_ble_eq_true rfl) ⟨Nat.le_refl _, Nat.le_refl _⟩ (fun b => b) ?_
                refine r_iload_n (pc := 104) dX11_real_104 rfl 6 rfl ?_
                refine r_ifne (pc := 105) (tgt := 112) dX11_real_105 rfl (fun c => ?_) (fun c => ?_)
                · have h := ie h c
                  refine r_iload_n (pc := 112) dX11_real_112 rfl 6 rfl ?_
                  refine r_iconst (pc := 113) dX11_real_113 kc_iconst_1 ?_
                  refine r_icmp_ne (pc := 114) (tgt := 124) dX11_real_114 rfl (fun c => ?_) (fun c => ?_)
                  · have h := ie h c
                    refine r_iload (pc := 124) dX11_real_124 0 rfl ?_
                    refine r_iconst (pc := 126) dX11_real_126 kc_iconst_1 ?_
                    refine r_isub (pc := 127) dX11_real_127 ?_
                    refine r_iconst (pc := 128) dX11_real_128 kc_iconst_2 ?_
                    refine r_idiv (pc := 129) dX11_real_129 (by decide) ?_
                    refine r_istore (pc := 130) (L' := [(7, vI ((r16 - (1 : Int32)) / (2 : Int32))), (6, vI r16), (5, vI r6), (4, vR (R a2 (Int32.toNatClampNeg x2))), (0, vR (some t)), (1, vI x1), (2, vI x2), (3, vI x3)]) dX11_real_130 (by decide) rfl ?_
                    refine r_aload_n (pc := 132) dX11_real_132 rfl 4 rfl ?_
                    refine r_getS (pc := 133) dX11_real_133 fgX11_69 rfl g1 ha18 ?_
                    refine r_iload (pc := 136) dX11_real_136 0 rfl ?_
                    obtain ⟨g22, h⟩ := gd h
                    obtain ⟨g23, h⟩ := gd h
                    refine r_laload (pc := 138) dX11_real_138 g22 g23 ?_
                    cases h
                    exact r_lret dX11_real_139
                  · have h := it h c
                    refine r_iload (pc := 117) dX11_real_117 0 rfl ?_
                    refine r_iconst (pc := 119) dX11_real_119 kc_iconst_1 ?_
                    refine r_isub (pc := 120) dX11_real_120 ?_
                    refine r_goto (pc := 121) (tgt := 130) dX11_real_121 rfl ?_
                    refine r_istore (pc := 130) (L' := [(7, vI (r16 - (1 : Int32))), (6, vI r16), (5, vI r6), (4, vR (R a2 (Int32.toNatClampNeg x2))), (0, vR (some t)), (1, vI x1), (2, vI x2), (3, vI x3)]) dX11_real_130 (by decide) rfl ?_
                    refine r_aload_n (pc := 132) dX11_real_132 rfl 4 rfl ?_
                    refine r_getS (pc := 133) dX11_real_133 fgX11_69 rfl g1 ha18 ?_
                    refine r_iload (pc := 136) dX11_real_136 0 rfl ?_
                    obtain ⟨g25, h⟩ := gd h
                    obtain ⟨g26, h⟩ := gd h
                    refine r_laload (pc := 138) dX11_real_138 g25 g26 ?_
                    cases h
                    exact r_lret dX11_real_139
                · have h := it h c
                  refine r_iconst (pc := 108) dX11_real_108 kc_iconst_0 ?_
                  refine r_goto (pc := 109) (tgt := 130) dX11_real_109 rfl ?_
                  refine r_istore (pc := 130) (L' := [(7, vI (0 : Int32)), (6, vI r16), (5, vI r6), (4, vR (R a2 (Int32.toNatClampNeg x2))), (0, vR (some t)), (1, vI x1), (2, vI x2), (3, vI x3)]) dX11_real_130 (by decide) rfl ?_
                  refine r_aload_n (pc := 132) dX11_real_132 rfl 4 rfl ?_
                  refine r_getS (pc := 133) dX11_real_133 fgX11_69 rfl g1 ha18 ?_
                  refine r_iload (pc := 136) dX11_real_136 0 rfl ?_
                  obtain ⟨g27, h⟩ := gd h
                  obtain ⟨g28, h⟩ := gd h
                  refine r_laload (pc := 138) dX11_real_138 g27 g28 ?_
                  cases h
                  exact r_lret dX11_real_139
              · have h := it h c
                refine r_aload_n (pc := 88) dX11_real_88 rfl 3 rfl ?_
                refine r_iload (pc := 89) dX11_real_89 0 rfl ?_
                obtain ⟨r29, hc30, h⟩ := ob h
                refine r_callV1 (pc := 91) (av := [vI r16]) (S := []) dX11_real_91 (kX11_meanBits hc30) g1 rfl mkX11_422 mwX11_meanBits rfl ⟨Nat.le_of_ble_eq_true rfl, Nat.le_of_ble_eq_true rfl⟩ (Nat.le_of_ble_eq_true rfl) ⟨Nat.le_refl _, Nat.le_refl _⟩ (fun b => b) ?_
                cases h
                exact r_lret dX11_real_94
            · have h := it h c
              refine r_ldc2 (pc := 79) dX11_real_79 clX11_420 ?_
              cases h
              exact r_lret dX11_real_82
      · have h := ie h c
        refine r_lconst (pc := 28) dX11_real_28 kc_lconst_0 ?_
        cases h
        exact r_lret dX11_real_29
def fX11_real (σ : Shp) (I : Nat → Nat → Int32) (J : Nat → Nat → Int64) (R : Nat → Nat → Option Nat) (t : Nat) (x1 : Int32) (x2 : Int32) (x3 : Int32) : Option ((Nat → Nat → Int32) × (Nat → Nat → Int64) × (Int64)) :=
  if x1 = (6 : Int32) then
    fX11_real_b12 σ R t I J x1 x2 x3
  else
    if x1 = (7 : Int32) then
      fX11_real_b12 σ R t I J x1 x2 x3
    else
      some (I, J, (0 : Int64))
theorem kX11_real {G : Gx} {l : Launch} {σ : Shp} {I : Nat → Nat → Int32} {J : Nat → Nat → Int64} {D : Nat → Nat → UInt64} {R : Nat → Nat → Option Nat} {t : Nat} {x1 : Int32} {x2 : Int32} {x3 : Int32} {I9 : Nat → Nat → Int32} {J9 : Nat → Nat → Int64} {r9 : Int64} (h : fX11_real σ I J R t x1 x2 x3 = some (I9, J9, r9)) : Con G l yX11_real cX11_real 8 (some .long) 5 119 [vR (some t), vI x1, vI x2, vI x3] (σ, I, J, D, R) (σ, I9, J9, D, R) (some (vL r9)) := by
  unfold fX11_real at h
  refine Con.mk (by decide +kernel) rfl (Nat.le_of_ble_eq_true rfl) ?_
  show WX11_real G l σ (σ, I9, J9, D, R) (some (vL r9)) (σ, I, J, D, R) 0 _ []
  refine r_iload_n (pc := 0) dX11_real_0 rfl 1 rfl ?_
  refine r_bipush (pc := 1) dX11_real_1 kc_bipush_6 ?_
  refine r_icmp_eq (pc := 3) (tgt := 12) dX11_real_3 rfl (fun c => ?_) (fun c => ?_)
  · have h := it h c
    refine r_sub [0, 1, 2, 3] rfl ?_
    exact wX11_real_b12 h
  · have h := ie h c
    refine r_iload_n (pc := 6) dX11_real_6 rfl 1 rfl ?_
    refine r_bipush (pc := 7) dX11_real_7 kc_bipush_7 ?_
    refine r_icmp_ne (pc := 9) (tgt := 28) dX11_real_9 rfl (fun c => ?_) (fun c => ?_)
    · have h := ie h c
      refine r_lconst (pc := 28) dX11_real_28 kc_lconst_0 ?_
      cases h
      exact r_lret dX11_real_29
    · have h := it h c
      refine r_sub [0, 1, 2, 3] rfl ?_
      exact wX11_real_b12 h
abbrev WX11_wholeMean (G : Gx) (l : Launch) (σ0 : Shp) (X1 : Stt) (rv : Option SV) : Stt → Nat → List (Nat × SV) → List SV → Prop := Wm G l yX11_wholeMean cX11_wholeMean 8 (some .int) (fun _ => True) (rmx 2 42 σ0 X1.1) σ0 (Qmx G σ0 X1 rv)
def fX11_wholeMean_l62  (σ : Shp) (J : Nat → Nat → Int64) (R : Nat → Nat → Option Nat) (t : Nat) : Nat → (Nat → Nat → Int32) → (Option Nat) → (Int32) → (Int64) → (Int32) → Option ((Nat → Nat → Int32) × (Int32))
  | 0, _, _, _, _, _ => none
  | n + 1, I, x2, x4, x5, x7 =>
    if x4 ≤ x7 then
      if ¬ (Int32.toInt64 x4) = 0 then
      if kdx σ t = 12 then
      let I21 := u2 I t 18 (Int64.toInt32 (x5 / (Int32.toInt64 x4)))
      some (I21, (1 : Int32))
      else none
      else none
    else
      (x2 : Option Nat).bind fun a22 =>
      if kdx σ a22 = 11 then
      ((R a22 1) : Option Nat).bind fun a24 =>
      if kdx σ a24 = 21 then
      if ¬ (x7 < 0 ∨ lnx σ a24 ≤ Int32.toNatClampNeg x7) then
      let v27 := (x5 + (J a24 (Int32.toNatClampNeg x7)))
      let v28 := x7 + (1 : Int32)
      fX11_wholeMean_l62 σ J R t n I x2 x4 v27 v28
      else none
      else none
      else none
theorem wX11_wholeMean_l62 {G : Gx} {l : Launch} {σ : Shp} {J : Nat → Nat → Int64} {D : Nat → Nat → UInt64} {R : Nat → Nat → Option Nat} {t : Nat} {I9 : Nat → Nat → Int32} {r9 : Int32} : ∀ (n : Nat) (I : Nat → Nat → Int32) (x2 : Option Nat) (x4 : Int32) (x5 : Int64) (x7 : Int32), fX11_wholeMean_l62 σ J R t n I x2 x4 x5 x7 = some (I9, r9) → WX11_wholeMean G l σ (σ, I9, J, D, R) (some (vI r9)) (σ, I, J, D, R) 62 [(0, vR (some t)), (2, vR x2), (4, vI x4), (5, vL x5), (7, vI x7)] [] := by
  intro n
  induction n with
  | zero =>
    intro I x2 x4 x5 x7 h
    have h : none = some _ := h
    cases h
  | succ n ih =>
    intro I x2 x4 x5 x7 h
    rw [fX11_wholeMean_l62] at h
    refine r_iload (pc := 62) dX11_wholeMean_62 4 rfl ?_
    refine r_iload (pc := 64) dX11_wholeMean_64 2 rfl ?_
    refine r_icmp_ge (pc := 66) (tgt := 87) dX11_wholeMean_66 rfl (fun c => ?_) (fun c => ?_)
    · have h := it h c
      refine r_aload_n (pc := 87) dX11_wholeMean_87 rfl 0 rfl ?_
      refine r_lload (pc := 88) dX11_wholeMean_88 3 rfl ?_
      refine r_iload (pc := 90) dX11_wholeMean_90 2 rfl ?_
      refine r_i2l (pc := 92) dX11_wholeMean_92 ?_
      obtain ⟨g19, h⟩ := gd h
      refine r_ldiv (pc := 93) dX11_wholeMean_93 g19 ?_
      refine r_l2i (pc := 94) dX11_wholeMean_94 ?_
      obtain ⟨g20, h⟩ := gd h
      refine r_putI (pc := 95) dX11_wholeMean_95 fwX11_257 rfl g20 ?_
      refine r_iconst (pc := 98) dX11_wholeMean_98 kc_iconst_1 ?_
      cases h
      exact r_iret dX11_wholeMean_99
    · have h := ie h c
      refine r_lload (pc := 69) dX11_wholeMean_69 3 rfl ?_
      refine r_aload_n (pc := 71) dX11_wholeMean_71 rfl 1 rfl ?_
      obtain ⟨a22, ha22, h⟩ := ob h
      refine r_ref0 ha22 ?_
      obtain ⟨g23, h⟩ := gd h
      obtain ⟨a24, ha24, h⟩ := ob h
      refine r_getS (pc := 72) dX11_wholeMean_72 fgX11_134 rfl g23 ha24 ?_
      refine r_iload (pc := 75) dX11_wholeMean_75 4 rfl ?_
      obtain ⟨g25, h⟩ := gd h
      obtain ⟨g26, h⟩ := gd h
      refine r_laload (pc := 77) dX11_wholeMean_77 g25 g26 ?_
      refine r_ladd (pc := 78) dX11_wholeMean_78 ?_
      refine r_lstore (pc := 79) (L' := [(5, vL (x5 + (J a24 (Int32.toNatClampNeg x7)))), (0, vR (some t)), (2, vR x2), (4, vI x4), (7, vI x7)]) dX11_wholeMean_79 (by decide) rfl ?_
      refine r_iinc (pc := 81) (v := (x7 + (1 : Int32))) (L' := [(7, vI (x7 + (1 : Int32))), (5, vL (x5 + (J a24 (Int32.toNatClampNeg x7)))), (0, vR (some t)), (2, vR x2), (4, vI x4)]) dX11_wholeMean_81 4 rfl (kc_inc_1 _) (by decide) rfl ?_
      refine r_goto (pc := 84) (tgt := 62) dX11_wholeMean_84 rfl ?_
      refine r_sub [2, 3, 4, 1, 0] rfl ?_
      exact ih _ _ _ _ _ h
def fX11_wholeMean (σ : Shp) (I : Nat → Nat → Int32) (J : Nat → Nat → Int64) (R : Nat → Nat → Option Nat) (t : Nat) (x1 : Int32) : Option ((Nat → Nat → Int32) × (Int32)) :=
  if (fX11_isBin x1) = 0 then
    some (I, (-2 : Int32))
  else
    if kdx σ t = 12 then
    ((R t 1) : Option Nat).bind fun a2 =>
    if kdx σ a2 = 26 then
    if ¬ (x1 < 0 ∨ lnx σ a2 ≤ Int32.toNatClampNeg x1) then
    let v5 := (R a2 (Int32.toNatClampNeg x1))
    (fX11_takenFault σ I v5 (4 : Int32)).bind fun r6 =>
    if r6 = 0 then
      onl v5
        (
          (fX11_fail σ I t r6).bind fun (I12, r13) =>
          some (I12, r13))
        (fun a11 =>
          if kdx σ a11 = 11 then
          ((R a11 1) : Option Nat).bind fun a16 =>
          if kdx σ a16 = 21 then
          let v18 := (Int32.ofNat (lnx σ a16))
          if v18 = 0 then
            (fX11_fail σ I t (6 : Int32)).bind fun (I29, r30) =>
            some (I29, r30)
          else
            fX11_wholeMean_l62 σ J R t FUx I v5 v18 (0 : Int64) (0 : Int32)
          else none
          else none)
    else
      (fX11_fail σ I t r6).bind fun (I8, r9) =>
      some (I8, r9)
    else none
    else none
    else none
theorem kX11_wholeMean {G : Gx} {l : Launch} {σ : Shp} {I : Nat → Nat → Int32} {J : Nat → Nat → Int64} {D : Nat → Nat → UInt64} {R : Nat → Nat → Option Nat} {t : Nat} {x1 : Int32} {I9 : Nat → Nat → Int32} {r9 : Int32} (h : fX11_wholeMean σ I J R t x1 = some (I9, r9)) : Con G l yX11_wholeMean cX11_wholeMean 8 (some .int) 2 42 [vR (some t), vI x1] (σ, I, J, D, R) (σ, I9, J, D, R) (some (vI r9)) := by
  unfold fX11_wholeMean at h
  refine Con.mk (by decide +kernel) rfl (Nat.le_of_ble_eq_true rfl) ?_
  show WX11_wholeMean G l σ (σ, I9, J, D, R) (some (vI r9)) (σ, I, J, D, R) 0 _ []
  refine r_iload_n (pc := 0) dX11_wholeMean_0 rfl 1 rfl ?_
  refine r_callS1 (pc := 1) (av := [vI x1]) (S := []) dX11_wholeMean_1 (kX11_isBin rfl) mkX11_76 mwX11_isBin rfl ⟨Nat.le_of_ble_eq_true rfl, Nat.le_of_ble_eq_true rfl⟩ (Nat.le_of_ble_eq_true rfl) ⟨Nat.le_refl _, Nat.le_refl _⟩ (fun b => b) ?_
  refine r_ifne (pc := 4) (tgt := 10) dX11_wholeMean_4 rfl (fun c => ?_) (fun c => ?_)
  · have h := ie h c
    refine r_aload_n (pc := 10) dX11_wholeMean_10 rfl 0 rfl ?_
    obtain ⟨g1, h⟩ := gd h
    obtain ⟨a2, ha2, h⟩ := ob h
    refine r_getS (pc := 11) dX11_wholeMean_11 fgX11_20 rfl g1 ha2 ?_
    refine r_iload_n (pc := 14) dX11_wholeMean_14 rfl 1 rfl ?_
    obtain ⟨g3, h⟩ := gd h
    obtain ⟨g4, h⟩ := gd h
    refine r_aaload (pc := 15) dX11_wholeMean_15 g3 (by decide) g4 ?_
    refine r_astore_n (pc := 16) (L' := [(2, vR (R a2 (Int32.toNatClampNeg x1))), (0, vR (some t)), (1, vI x1)]) dX11_wholeMean_16 rfl (by decide) rfl ?_
    refine r_aload_n (pc := 17) dX11_wholeMean_17 rfl 0 rfl ?_
    refine r_iconst (pc := 18) dX11_wholeMean_18 kc_iconst_4 ?_
    obtain ⟨r6, hc7, h⟩ := ob h
    refine r_callS1 (pc := 19) (av := [vR (R a2 (Int32.toNatClampNeg x1)), vI (4 : Int32)]) (S := []) dX11_wholeMean_19 (kX11_takenFault hc7) mkX11_267 mwX11_takenFault rfl ⟨Nat.le_of_ble_eq_true rfl, Nat.le_of_ble_eq_true rfl⟩ (Nat.le_of_ble_eq_true rfl) ⟨Nat.le_refl _, Nat.le_refl _⟩ (fun b => b) ?_
    refine r_istore_n (pc := 22) (L' := [(3, vI r6), (2, vR (R a2 (Int32.toNatClampNeg x1))), (0, vR (some t)), (1, vI x1)]) dX11_wholeMean_22 rfl (by decide) rfl ?_
    refine r_iload_n (pc := 23) dX11_wholeMean_23 rfl 0 rfl ?_
    refine r_ifne (pc := 24) (tgt := 31) dX11_wholeMean_24 rfl (fun c => ?_) (fun c => ?_)
    · have h := ie h c
      refine r_aload_n (pc := 31) dX11_wholeMean_31 rfl 2 rfl ?_
      refine r_iload_n (pc := 32) dX11_wholeMean_32 rfl 0 rfl ?_
      obtain ⟨⟨I8, r9⟩, hc10, h⟩ := ob h
      refine r_callV1 (pc := 33) (av := [vI r6]) (S := []) dX11_wholeMean_33 (kX11_fail hc10) g1 rfl mkX11_87 mwX11_fail rfl ⟨Nat.le_of_ble_eq_true rfl, Nat.le_of_ble_eq_true rfl⟩ (Nat.le_of_ble_eq_true rfl) ⟨Nat.le_refl _, Nat.le_refl _⟩ (fun b => b) ?_
      cases h
      exact r_iret dX11_wholeMean_36
    · have h := it h c
      refine r_aload_n (pc := 27) dX11_wholeMean_27 rfl 1 rfl ?_
      rcases onl_c h with ⟨ea11, h⟩ | ⟨a11, ha11, h⟩
      · refine r_ref0n ea11 ?_
        refine r_ifnonnull_n (pc := 28) dX11_wholeMean_28 ?_
        refine r_aload_n (pc := 31) dX11_wholeMean_31 rfl 2 rfl ?_
        refine r_iload_n (pc := 32) dX11_wholeMean_32 rfl 0 rfl ?_
        obtain ⟨⟨I12, r13⟩, hc14, h⟩ := ob h
        refine r_callV1 (pc := 33) (av := [vI r6]) (S := []) dX11_wholeMean_33 (kX11_fail hc14) g1 rfl mkX11_87 mwX11_fail rfl ⟨Nat.le_of_ble_eq_true rfl, Nat.le_of_ble_eq_true rfl⟩ (Nat.le_of_ble_eq_true rfl) ⟨Nat.le_refl _, Nat.le_refl _⟩ (fun b => b) ?_
        cases h
        exact r_iret dX11_wholeMean_36
      · refine r_ref0 ha11 ?_
        refine r_ifnonnull_s (pc := 28) (tgt := 37) dX11_wholeMean_28 rfl ?_
        refine r_aload_n (pc := 37) dX11_wholeMean_37 rfl 1 rfl ?_
        refine r_ref0 ha11 ?_
        obtain ⟨g15, h⟩ := gd h
        obtain ⟨a16, ha16, h⟩ := ob h
        refine r_getS (pc := 38) dX11_wholeMean_38 fgX11_134 rfl g15 ha16 ?_
        obtain ⟨g17, h⟩ := gd h
        refine r_alen (pc := 41) dX11_wholeMean_41 g17 (by decide) ?_
        refine r_istore (pc := 42) (L' := [(4, vI (Int32.ofNat (lnx σ a16))), (3, vI r6), (2, vR (R a2 (Int32.toNatClampNeg x1))), (0, vR (some t)), (1, vI x1)]) dX11_wholeMean_42 (by decide) rfl ?_
        refine r_iload (pc := 44) dX11_wholeMean_44 0 rfl ?_
        refine r_ifne (pc := 46) (tgt := 56) dX11_wholeMean_46 rfl (fun c => ?_) (fun c => ?_)
        · have h := ie h c
          refine r_lconst (pc := 56) dX11_wholeMean_56 kc_lconst_0 ?_
          refine r_lstore (pc := 57) (L' := [(5, vL (0 : Int64)), (4, vI (Int32.ofNat (lnx σ a16))), (3, vI r6), (2, vR (R a2 (Int32.toNatClampNeg x1))), (0, vR (some t)), (1, vI x1)]) dX11_wholeMean_57 (by decide) rfl ?_
          refine r_iconst (pc := 59) dX11_wholeMean_59 kc_iconst_0 ?_
          refine r_istore (pc := 60) (L' := [(7, vI (0 : Int32)), (5, vL (0 : Int64)), (4, vI (Int32.ofNat (lnx σ a16))), (3, vI r6), (2, vR (R a2 (Int32.toNatClampNeg x1))), (0, vR (some t)), (1, vI x1)]) dX11_wholeMean_60 (by decide) rfl ?_
          refine r_sub [5, 4, 2, 1, 0] rfl ?_
          exact wX11_wholeMean_l62 _ _ _ _ _ _ h
        · have h := it h c
          refine r_aload_n (pc := 49) dX11_wholeMean_49 rfl 3 rfl ?_
          refine r_bipush (pc := 50) dX11_wholeMean_50 kc_bipush_6 ?_
          obtain ⟨⟨I29, r30⟩, hc31, h⟩ := ob h
          refine r_callV1 (pc := 52) (av := [vI (6 : Int32)]) (S := []) dX11_wholeMean_52 (kX11_fail hc31) g1 rfl mkX11_87 mwX11_fail rfl ⟨Nat.le_of_ble_eq_true rfl, Nat.le_of_ble_eq_true rfl⟩ (Nat.le_of_ble_eq_true rfl) ⟨Nat.le_refl _, Nat.le_refl _⟩ (fun b => b) ?_
          cases h
          exact r_iret dX11_wholeMean_55
  · have h := it h c
    refine r_bipush (pc := 7) dX11_wholeMean_7 kc_bipush_m2 ?_
    cases h
    exact r_iret dX11_wholeMean_9
abbrev WX11_salt (G : Gx) (l : Launch) (σ0 : Shp) (X1 : Stt) (rv : Option SV) : Stt → Nat → List (Nat × SV) → List SV → Prop := Wm G l yX11_salt cX11_salt 4 (some .int) (fun _ => True) (rmx 1 24 σ0 X1.1) σ0 (Qmx G σ0 X1 rv)
def fX11_salt (σ : Shp) (I : Nat → Nat → Int32) (R : Nat → Nat → Option Nat) (t : Nat) (x1 : Int32) (x2 : Int32) (x3 : Int32) : Option ((Nat → Nat → Int32) × (Int32)) :=
  if x1 < 0 then
    some (I, (-2 : Int32))
  else
    if (5 : Int32) < x1 then
      some (I, (-2 : Int32))
    else
      if x2 < 0 then
        some (I, (-2 : Int32))
      else
        if (2 : Int32) < x2 then
          some (I, (-2 : Int32))
        else
          if x3 < 0 then
            some (I, (-2 : Int32))
          else
            if (4 : Int32) ≤ x1 then
              if x3 ≤ (999 : Int32) then
                if kdx σ t = 12 then
                ((R t 7) : Option Nat).bind fun a2 =>
                if kdx σ a2 = 3 then
                (fX2_becomes σ I R a2 x1 x2 x3).bind fun (I4, r5) =>
                some (I4, r5)
                else none
                else none
              else
                some (I, (-2 : Int32))
            else
              if x3 ≤ (99 : Int32) then
                if kdx σ t = 12 then
                ((R t 7) : Option Nat).bind fun a8 =>
                if kdx σ a8 = 3 then
                (fX2_becomes σ I R a8 x1 x2 x3).bind fun (I10, r11) =>
                some (I10, r11)
                else none
                else none
              else
                some (I, (-2 : Int32))
theorem kX11_salt {G : Gx} {l : Launch} {σ : Shp} {I : Nat → Nat → Int32} {J : Nat → Nat → Int64} {D : Nat → Nat → UInt64} {R : Nat → Nat → Option Nat} {t : Nat} {x1 : Int32} {x2 : Int32} {x3 : Int32} {I9 : Nat → Nat → Int32} {r9 : Int32} (h : fX11_salt σ I R t x1 x2 x3 = some (I9, r9)) : Con G l yX11_salt cX11_salt 4 (some .int) 1 24 [vR (some t), vI x1, vI x2, vI x3] (σ, I, J, D, R) (σ, I9, J, D, R) (some (vI r9)) := by
  unfold fX11_salt at h
  refine Con.mk (by decide +kernel) rfl (Nat.le_of_ble_eq_true rfl) ?_
  show WX11_salt G l σ (σ, I9, J, D, R) (some (vI r9)) (σ, I, J, D, R) 0 _ []
  refine r_iload_n (pc := 0) dX11_salt_0 rfl 1 rfl ?_
  refine r_if_lt (pc := 1) (tgt := 39) dX11_salt_1 rfl (fun c => ?_) (fun c => ?_)
  · have h := it h c
    refine r_bipush (pc := 39) dX11_salt_39 kc_bipush_m2 ?_
    cases h
    exact r_iret dX11_salt_41
  · have h := ie h c
    refine r_iload_n (pc := 4) dX11_salt_4 rfl 1 rfl ?_
    refine r_iconst (pc := 5) dX11_salt_5 kc_iconst_5 ?_
    refine r_icmp_gt (pc := 6) (tgt := 39) dX11_salt_6 rfl (fun c => ?_) (fun c => ?_)
    · have h := it h c
      refine r_bipush (pc := 39) dX11_salt_39 kc_bipush_m2 ?_
      cases h
      exact r_iret dX11_salt_41
    · have h := ie h c
      refine r_iload_n (pc := 9) dX11_salt_9 rfl 2 rfl ?_
      refine r_if_lt (pc := 10) (tgt := 39) dX11_salt_10 rfl (fun c => ?_) (fun c => ?_)
      · have h := it h c
        refine r_bipush (pc := 39) dX11_salt_39 kc_bipush_m2 ?_
        cases h
        exact r_iret dX11_salt_41
      · have h := ie h c
        refine r_iload_n (pc := 13) dX11_salt_13 rfl 2 rfl ?_
        refine r_iconst (pc := 14) dX11_salt_14 kc_iconst_2 ?_
        refine r_icmp_gt (pc := 15) (tgt := 39) dX11_salt_15 rfl (fun c => ?_) (fun c => ?_)
        · have h := it h c
          refine r_bipush (pc := 39) dX11_salt_39 kc_bipush_m2 ?_
          cases h
          exact r_iret dX11_salt_41
        · have h := ie h c
          refine r_iload_n (pc := 18) dX11_salt_18 rfl 3 rfl ?_
          refine r_if_lt (pc := 19) (tgt := 39) dX11_salt_19 rfl (fun c => ?_) (fun c => ?_)
          · have h := it h c
            refine r_bipush (pc := 39) dX11_salt_39 kc_bipush_m2 ?_
            cases h
            exact r_iret dX11_salt_41
          · have h := ie h c
            refine r_iload_n (pc := 22) dX11_salt_22 rfl 3 rfl ?_
            refine r_iload_n (pc := 23) dX11_salt_23 rfl 1 rfl ?_
            refine r_iconst (pc := 24) dX11_salt_24 kc_iconst_4 ?_
            refine r_icmp_ge (pc := 25) (tgt := 33) dX11_salt_25 rfl (fun c => ?_) (fun c => ?_)
            · have h := it h c
              refine r_sipush (pc := 33) dX11_salt_33 kc_sipush_999 ?_
              refine r_icmp_le (pc := 36) (tgt := 42) dX11_salt_36 rfl (fun c => ?_) (fun c => ?_)
              · have h := it h c
                refine r_aload_n (pc := 42) dX11_salt_42 rfl 0 rfl ?_
                obtain ⟨g1, h⟩ := gd h
                obtain ⟨a2, ha2, h⟩ := ob h
                refine r_getS (pc := 43) dX11_salt_43 fgX11_51 rfl g1 ha2 ?_
                refine r_iload_n (pc := 46) dX11_salt_46 rfl 1 rfl ?_
                refine r_iload_n (pc := 47) dX11_salt_47 rfl 2 rfl ?_
                refine r_iload_n (pc := 48) dX11_salt_48 rfl 3 rfl ?_
                obtain ⟨g3, h⟩ := gd h
                obtain ⟨⟨I4, r5⟩, hc6, h⟩ := ob h
                refine r_callV1 (pc := 49) (av := [vI x1, vI x2, vI x3]) (S := []) dX11_salt_49 (kX2_becomes hc6) g3 rfl mkX11_430 mwX2_becomes rfl ⟨Nat.le_of_ble_eq_true rfl, Nat.le_of_ble_eq_true rfl⟩ (Nat.le_of_ble_eq_true rfl) ⟨Nat.le_refl _, Nat.le_refl _⟩ (fun b => b) ?_
                cases h
                exact r_iret dX11_salt_52
              · have h := ie h c
                refine r_bipush (pc := 39) dX11_salt_39 kc_bipush_m2 ?_
                cases h
                exact r_iret dX11_salt_41
            · have h := ie h c
              refine r_bipush (pc := 28) dX11_salt_28 kc_bipush_99 ?_
              refine r_goto (pc := 30) (tgt := 36) dX11_salt_30 rfl ?_
              refine r_icmp_le (pc := 36) (tgt := 42) dX11_salt_36 rfl (fun c => ?_) (fun c => ?_)
              · have h := it h c
                refine r_aload_n (pc := 42) dX11_salt_42 rfl 0 rfl ?_
                obtain ⟨g7, h⟩ := gd h
                obtain ⟨a8, ha8, h⟩ := ob h
                refine r_getS (pc := 43) dX11_salt_43 fgX11_51 rfl g7 ha8 ?_
                refine r_iload_n (pc := 46) dX11_salt_46 rfl 1 rfl ?_
                refine r_iload_n (pc := 47) dX11_salt_47 rfl 2 rfl ?_
                refine r_iload_n (pc := 48) dX11_salt_48 rfl 3 rfl ?_
                obtain ⟨g9, h⟩ := gd h
                obtain ⟨⟨I10, r11⟩, hc12, h⟩ := ob h
                refine r_callV1 (pc := 49) (av := [vI x1, vI x2, vI x3]) (S := []) dX11_salt_49 (kX2_becomes hc12) g9 rfl mkX11_430 mwX2_becomes rfl ⟨Nat.le_of_ble_eq_true rfl, Nat.le_of_ble_eq_true rfl⟩ (Nat.le_of_ble_eq_true rfl) ⟨Nat.le_refl _, Nat.le_refl _⟩ (fun b => b) ?_
                cases h
                exact r_iret dX11_salt_52
              · have h := ie h c
                refine r_bipush (pc := 39) dX11_salt_39 kc_bipush_m2 ?_
                cases h
                exact r_iret dX11_salt_41
abbrev WX11_work (G : Gx) (l : Launch) (σ0 : Shp) (X1 : Stt) (rv : Option SV) : Stt → Nat → List (Nat × SV) → List SV → Prop := Wm G l yX11_work cX11_work 1 (some .int) (fun _ => True) (rmx 6 158 σ0 X1.1) σ0 (Qmx G σ0 X1 rv)
def fX11_work (σ : Shp) (I : Nat → Nat → Int32) (J : Nat → Nat → Int64) (R : Nat → Nat → Option Nat) (t : Nat)  : Option ((Nat → Nat → Int32) × (Nat → Nat → Int64) × (Int32)) :=
  if kdx σ t = 12 then
  ((R t 7) : Option Nat).bind fun a2 =>
  if kdx σ a2 = 3 then
  (fX2_solved σ I J R a2).bind fun (I4, J5, r6) =>
  some (I4, J5, r6)
  else none
  else none
theorem kX11_work {G : Gx} {l : Launch} {σ : Shp} {I : Nat → Nat → Int32} {J : Nat → Nat → Int64} {D : Nat → Nat → UInt64} {R : Nat → Nat → Option Nat} {t : Nat}  {I9 : Nat → Nat → Int32} {J9 : Nat → Nat → Int64} {r9 : Int32} (h : fX11_work σ I J R t = some (I9, J9, r9)) : Con G l yX11_work cX11_work 1 (some .int) 6 158 [vR (some t)] (σ, I, J, D, R) (σ, I9, J9, D, R) (some (vI r9)) := by
  unfold fX11_work at h
  refine Con.mk (by decide +kernel) rfl (Nat.le_of_ble_eq_true rfl) ?_
  show WX11_work G l σ (σ, I9, J9, D, R) (some (vI r9)) (σ, I, J, D, R) 0 _ []
  refine r_aload_n (pc := 0) dX11_work_0 rfl 0 rfl ?_
  obtain ⟨g1, h⟩ := gd h
  obtain ⟨a2, ha2, h⟩ := ob h
  refine r_getS (pc := 1) dX11_work_1 fgX11_51 rfl g1 ha2 ?_
  obtain ⟨g3, h⟩ := gd h
  obtain ⟨⟨I4, J5, r6⟩, hc7, h⟩ := ob h
  refine r_callV1 (pc := 4) (av := []) (S := []) dX11_work_4 (kX2_solved hc7) g3 rfl mkX11_433 mwX2_solved rfl ⟨Nat.le_of_ble_eq_true rfl, Nat.le_of_ble_eq_true rfl⟩ (Nat.le_of_ble_eq_true rfl) ⟨Nat.le_refl _, Nat.le_refl _⟩ (fun b => b) ?_
  cases h
  exact r_iret dX11_work_7
abbrev WX11_worked (G : Gx) (l : Launch) (σ0 : Shp) (X1 : Stt) (rv : Option SV) : Stt → Nat → List (Nat × SV) → List SV → Prop := Wm G l yX11_worked cX11_worked 3 (some .long) (fun _ => True) (rmx 1 22 σ0 X1.1) σ0 (Qmx G σ0 X1 rv)
def fX11_worked (σ : Shp) (I : Nat → Nat → Int32) (J : Nat → Nat → Int64) (R : Nat → Nat → Option Nat) (t : Nat) (x1 : Int32) (x2 : Int32) : Option ((Int64)) :=
  if kdx σ t = 12 then
  ((R t 7) : Option Nat).bind fun a2 =>
  if kdx σ a2 = 3 then
  (fX2_outcome σ I J R a2 x1 x2).bind fun r4 =>
  some r4
  else none
  else none
theorem kX11_worked {G : Gx} {l : Launch} {σ : Shp} {I : Nat → Nat → Int32} {J : Nat → Nat → Int64} {D : Nat → Nat → UInt64} {R : Nat → Nat → Option Nat} {t : Nat} {x1 : Int32} {x2 : Int32} {r9 : Int64} (h : fX11_worked σ I J R t x1 x2 = some r9) : Con G l yX11_worked cX11_worked 3 (some .long) 1 22 [vR (some t), vI x1, vI x2] (σ, I, J, D, R) (σ, I, J, D, R) (some (vL r9)) := by
  unfold fX11_worked at h
  refine Con.mk (by decide +kernel) rfl (Nat.le_of_ble_eq_true rfl) ?_
  show WX11_worked G l σ (σ, I, J, D, R) (some (vL r9)) (σ, I, J, D, R) 0 _ []
  refine r_aload_n (pc := 0) dX11_worked_0 rfl 0 rfl ?_
  obtain ⟨g1, h⟩ := gd h
  obtain ⟨a2, ha2, h⟩ := ob h
  refine r_getS (pc := 1) dX11_worked_1 fgX11_51 rfl g1 ha2 ?_
  refine r_iload_n (pc := 4) dX11_worked_4 rfl 1 rfl ?_
  refine r_iload_n (pc := 5) dX11_worked_5 rfl 2 rfl ?_
  obtain ⟨g3, h⟩ := gd h
  obtain ⟨r4, hc5, h⟩ := ob h
  refine r_callV1 (pc := 6) (av := [vI x1, vI x2]) (S := []) dX11_worked_6 (kX2_outcome hc5) g3 rfl mkX11_436 mwX2_outcome rfl ⟨Nat.le_of_ble_eq_true rfl, Nat.le_of_ble_eq_true rfl⟩ (Nat.le_of_ble_eq_true rfl) ⟨Nat.le_refl _, Nat.le_refl _⟩ (fun b => b) ?_
  cases h
  exact r_lret dX11_worked_9
abbrev WX11_isPest (G : Gx) (l : Launch) (σ0 : Shp) (X1 : Stt) (rv : Option SV) : Stt → Nat → List (Nat × SV) → List SV → Prop := Wm G l yX11_isPest cX11_isPest 1 (some .boolean) (fun _ => True) (rmx 0 0 σ0 X1.1) σ0 (Qmx G σ0 X1 rv)
def fX11_isPest  (x0 : Int32) : (Int32) :=
  if x0 < 0 then
    (0 : Int32)
  else
    if (2 : Int32) ≤ x0 then
      (0 : Int32)
    else
      (1 : Int32)
theorem zX11_isPest  (x0 : Int32) : fX11_isPest x0 = 0 ∨ fX11_isPest x0 = 1 := by
  unfold fX11_isPest
  repeat' (first | refine itz ?_ ?_ | exact Or.inl rfl | exact Or.inr rfl)
theorem kX11_isPest {G : Gx} {l : Launch} {σ : Shp} {I : Nat → Nat → Int32} {J : Nat → Nat → Int64} {D : Nat → Nat → UInt64} {R : Nat → Nat → Option Nat} {x0 : Int32} {r9 : Int32} (h : fX11_isPest x0 = r9) : Con G l yX11_isPest cX11_isPest 1 (some .boolean) 0 0 [vI x0] (σ, I, J, D, R) (σ, I, J, D, R) (some (vI r9)) := by
  unfold fX11_isPest at h
  refine Con.mk (by decide +kernel) rfl (Nat.le_of_ble_eq_true rfl) ?_
  show WX11_isPest G l σ (σ, I, J, D, R) (some (vI r9)) (σ, I, J, D, R) 0 _ []
  refine r_iload_n (pc := 0) dX11_isPest_0 rfl 0 rfl ?_
  refine r_if_lt (pc := 1) (tgt := 13) dX11_isPest_1 rfl (fun c => ?_) (fun c => ?_)
  · have h := it h c
    refine r_iconst (pc := 13) dX11_isPest_13 kc_iconst_0 ?_
    subst h
    exact r_zret dX11_isPest_14 (Or.inl rfl)
  · have h := ie h c
    refine r_iload_n (pc := 4) dX11_isPest_4 rfl 0 rfl ?_
    refine r_iconst (pc := 5) dX11_isPest_5 kc_iconst_2 ?_
    refine r_icmp_ge (pc := 6) (tgt := 13) dX11_isPest_6 rfl (fun c => ?_) (fun c => ?_)
    · have h := it h c
      refine r_iconst (pc := 13) dX11_isPest_13 kc_iconst_0 ?_
      subst h
      exact r_zret dX11_isPest_14 (Or.inl rfl)
    · have h := ie h c
      refine r_iconst (pc := 9) dX11_isPest_9 kc_iconst_1 ?_
      refine r_goto (pc := 10) (tgt := 14) dX11_isPest_10 rfl ?_
      subst h
      exact r_zret dX11_isPest_14 (Or.inr rfl)
abbrev WX11_isStage (G : Gx) (l : Launch) (σ0 : Shp) (X1 : Stt) (rv : Option SV) : Stt → Nat → List (Nat × SV) → List SV → Prop := Wm G l yX11_isStage cX11_isStage 1 (some .boolean) (fun _ => True) (rmx 0 0 σ0 X1.1) σ0 (Qmx G σ0 X1 rv)
def fX11_isStage  (x0 : Int32) : (Int32) :=
  if x0 < 0 then
    (0 : Int32)
  else
    if (4 : Int32) ≤ x0 then
      (0 : Int32)
    else
      (1 : Int32)
theorem zX11_isStage  (x0 : Int32) : fX11_isStage x0 = 0 ∨ fX11_isStage x0 = 1 := by
  unfold fX11_isStage
  repeat' (first | refine itz ?_ ?_ | exact Or.inl rfl | exact Or.inr rfl)
theorem kX11_isStage {G : Gx} {l : Launch} {σ : Shp} {I : Nat → Nat → Int32} {J : Nat → Nat → Int64} {D : Nat → Nat → UInt64} {R : Nat → Nat → Option Nat} {x0 : Int32} {r9 : Int32} (h : fX11_isStage x0 = r9) : Con G l yX11_isStage cX11_isStage 1 (some .boolean) 0 0 [vI x0] (σ, I, J, D, R) (σ, I, J, D, R) (some (vI r9)) := by
  unfold fX11_isStage at h
  refine Con.mk (by decide +kernel) rfl (Nat.le_of_ble_eq_true rfl) ?_
  show WX11_isStage G l σ (σ, I, J, D, R) (some (vI r9)) (σ, I, J, D, R) 0 _ []
  refine r_iload_n (pc := 0) dX11_isStage_0 rfl 0 rfl ?_
  refine r_if_lt (pc := 1) (tgt := 13) dX11_isStage_1 rfl (fun c => ?_) (fun c => ?_)
  · have h := it h c
    refine r_iconst (pc := 13) dX11_isStage_13 kc_iconst_0 ?_
    subst h
    exact r_zret dX11_isStage_14 (Or.inl rfl)
  · have h := ie h c
    refine r_iload_n (pc := 4) dX11_isStage_4 rfl 0 rfl ?_
    refine r_iconst (pc := 5) dX11_isStage_5 kc_iconst_4 ?_
    refine r_icmp_ge (pc := 6) (tgt := 13) dX11_isStage_6 rfl (fun c => ?_) (fun c => ?_)
    · have h := it h c
      refine r_iconst (pc := 13) dX11_isStage_13 kc_iconst_0 ?_
      subst h
      exact r_zret dX11_isStage_14 (Or.inl rfl)
    · have h := ie h c
      refine r_iconst (pc := 9) dX11_isStage_9 kc_iconst_1 ?_
      refine r_goto (pc := 10) (tgt := 14) dX11_isStage_10 rfl ?_
      subst h
      exact r_zret dX11_isStage_14 (Or.inr rfl)
abbrev WX11_count (G : Gx) (l : Launch) (σ0 : Shp) (X1 : Stt) (rv : Option SV) : Stt → Nat → List (Nat × SV) → List SV → Prop := Wm G l yX11_count cX11_count 4 (some .int) (fun _ => True) (rmx 1 20 σ0 X1.1) σ0 (Qmx G σ0 X1 rv)
def fX11_count (σ : Shp) (J : Nat → Nat → Int64) (R : Nat → Nat → Option Nat) (t : Nat) (x1 : Int32) (x2 : Int32) (x3 : Int32) : Option ((Nat → Nat → Int64) × (Int32)) :=
  if (fX11_isPest x1) = 0 then
    some (J, (-2 : Int32))
  else
    if (fX11_isStage x2) = 0 then
      some (J, (-2 : Int32))
    else
      if x3 < 0 then
        some (J, (-2 : Int32))
      else
        if (Int32.toInt64 x3) ≤ (1000000000 : Int64) then
          if kdx σ t = 12 then
          ((R t 8) : Option Nat).bind fun a2 =>
          if kdx σ a2 = 6 then
          ((R a2 0) : Option Nat).bind fun a4 =>
          if kdx σ a4 = 29 then
          if ¬ (x1 < 0 ∨ lnx σ a4 ≤ Int32.toNatClampNeg x1) then
          ((R a4 (Int32.toNatClampNeg x1)) : Option Nat).bind fun a7 =>
          if kdx σ a7 = 21 then
          if ¬ (x2 < 0 ∨ lnx σ a7 ≤ Int32.toNatClampNeg x2) then
          let J10 := u2 J a7 (Int32.toNatClampNeg x2) (Int32.toInt64 x3)
          some (J10, (1 : Int32))
          else none
          else none
          else none
          else none
          else none
          else none
        else
          some (J, (-2 : Int32))
theorem kX11_count {G : Gx} {l : Launch} {σ : Shp} {I : Nat → Nat → Int32} {J : Nat → Nat → Int64} {D : Nat → Nat → UInt64} {R : Nat → Nat → Option Nat} {t : Nat} {x1 : Int32} {x2 : Int32} {x3 : Int32} {J9 : Nat → Nat → Int64} {r9 : Int32} (h : fX11_count σ J R t x1 x2 x3 = some (J9, r9)) : Con G l yX11_count cX11_count 4 (some .int) 1 20 [vR (some t), vI x1, vI x2, vI x3] (σ, I, J, D, R) (σ, I, J9, D, R) (some (vI r9)) := by
  unfold fX11_count at h
  refine Con.mk (by decide +kernel) rfl (Nat.le_of_ble_eq_true rfl) ?_
  show WX11_count G l σ (σ, I, J9, D, R) (some (vI r9)) (σ, I, J, D, R) 0 _ []
  refine r_iload_n (pc := 0) dX11_count_0 rfl 1 rfl ?_
  refine r_callS1 (pc := 1) (av := [vI x1]) (S := []) dX11_count_1 (kX11_isPest rfl) mkX11_440 mwX11_isPest rfl ⟨Nat.le_of_ble_eq_true rfl, Nat.le_of_ble_eq_true rfl⟩ (Nat.le_of_ble_eq_true rfl) ⟨Nat.le_refl _, Nat.le_refl _⟩ (fun b => b) ?_
  refine r_if_eq (pc := 4) (tgt := 27) dX11_count_4 rfl (fun c => ?_) (fun c => ?_)
  · have h := it h c
    refine r_bipush (pc := 27) dX11_count_27 kc_bipush_m2 ?_
    cases h
    exact r_iret dX11_count_29
  · have h := ie h c
    refine r_iload_n (pc := 7) dX11_count_7 rfl 2 rfl ?_
    refine r_callS1 (pc := 8) (av := [vI x2]) (S := []) dX11_count_8 (kX11_isStage rfl) mkX11_443 mwX11_isStage rfl ⟨Nat.le_of_ble_eq_true rfl, Nat.le_of_ble_eq_true rfl⟩ (Nat.le_of_ble_eq_true rfl) ⟨Nat.le_refl _, Nat.le_refl _⟩ (fun b => b) ?_
    refine r_if_eq (pc := 11) (tgt := 27) dX11_count_11 rfl (fun c => ?_) (fun c => ?_)
    · have h := it h c
      refine r_bipush (pc := 27) dX11_count_27 kc_bipush_m2 ?_
      cases h
      exact r_iret dX11_count_29
    · have h := ie h c
      refine r_iload_n (pc := 14) dX11_count_14 rfl 3 rfl ?_
      refine r_if_lt (pc := 15) (tgt := 27) dX11_count_15 rfl (fun c => ?_) (fun c => ?_)
      · have h := it h c
        refine r_bipush (pc := 27) dX11_count_27 kc_bipush_m2 ?_
        cases h
        exact r_iret dX11_count_29
      · have h := ie h c
        refine r_iload_n (pc := 18) dX11_count_18 rfl 3 rfl ?_
        refine r_i2l (pc := 19) dX11_count_19 ?_
        refine r_ldc2 (pc := 20) dX11_count_20 clX11_446 ?_
        refine r_lcmp (pc := 23) dX11_count_23 ?_
        refine r_if_le (pc := 24) (tgt := 30) dX11_count_24 rfl (fun c => ?_) (fun c => ?_)
        · have h := it h (lgc_le.mp c)
          refine r_aload_n (pc := 30) dX11_count_30 rfl 0 rfl ?_
          obtain ⟨g1, h⟩ := gd h
          obtain ⟨a2, ha2, h⟩ := ob h
          refine r_getS (pc := 31) dX11_count_31 fgX11_58 rfl g1 ha2 ?_
          obtain ⟨g3, h⟩ := gd h
          obtain ⟨a4, ha4, h⟩ := ob h
          refine r_getS (pc := 34) dX11_count_34 fgX11_448 rfl g3 ha4 ?_
          refine r_iload_n (pc := 37) dX11_count_37 rfl 1 rfl ?_
          obtain ⟨g5, h⟩ := gd h
          obtain ⟨g6, h⟩ := gd h
          refine r_aaload (pc := 38) dX11_count_38 g5 (by decide) g6 ?_
          obtain ⟨a7, ha7, h⟩ := ob h
          refine r_ref0 ha7 ?_
          refine r_iload_n (pc := 39) dX11_count_39 rfl 2 rfl ?_
          refine r_iload_n (pc := 40) dX11_count_40 rfl 3 rfl ?_
          refine r_i2l (pc := 41) dX11_count_41 ?_
          obtain ⟨g8, h⟩ := gd h
          obtain ⟨g9, h⟩ := gd h
          refine r_lastore (pc := 42) dX11_count_42 g8 g9 ?_
          refine r_iconst (pc := 43) dX11_count_43 kc_iconst_1 ?_
          cases h
          exact r_iret dX11_count_44
        · have h := ie h (fun q => c (lgc_le.mpr q))
          refine r_bipush (pc := 27) dX11_count_27 kc_bipush_m2 ?_
          cases h
          exact r_iret dX11_count_29
abbrev WX11_isPart (G : Gx) (l : Launch) (σ0 : Shp) (X1 : Stt) (rv : Option SV) : Stt → Nat → List (Nat × SV) → List SV → Prop := Wm G l yX11_isPart cX11_isPart 1 (some .boolean) (fun _ => True) (rmx 0 0 σ0 X1.1) σ0 (Qmx G σ0 X1 rv)
def fX11_isPart  (x0 : Int32) : (Int32) :=
  if x0 < 0 then
    (0 : Int32)
  else
    if (1000 : Int32) < x0 then
      (0 : Int32)
    else
      (1 : Int32)
theorem zX11_isPart  (x0 : Int32) : fX11_isPart x0 = 0 ∨ fX11_isPart x0 = 1 := by
  unfold fX11_isPart
  repeat' (first | refine itz ?_ ?_ | exact Or.inl rfl | exact Or.inr rfl)
theorem kX11_isPart {G : Gx} {l : Launch} {σ : Shp} {I : Nat → Nat → Int32} {J : Nat → Nat → Int64} {D : Nat → Nat → UInt64} {R : Nat → Nat → Option Nat} {x0 : Int32} {r9 : Int32} (h : fX11_isPart x0 = r9) : Con G l yX11_isPart cX11_isPart 1 (some .boolean) 0 0 [vI x0] (σ, I, J, D, R) (σ, I, J, D, R) (some (vI r9)) := by
  unfold fX11_isPart at h
  refine Con.mk (by decide +kernel) rfl (Nat.le_of_ble_eq_true rfl) ?_
  show WX11_isPart G l σ (σ, I, J, D, R) (some (vI r9)) (σ, I, J, D, R) 0 _ []
  refine r_iload_n (pc := 0) dX11_isPart_0 rfl 0 rfl ?_
  refine r_if_lt (pc := 1) (tgt := 15) dX11_isPart_1 rfl (fun c => ?_) (fun c => ?_)
  · have h := it h c
    refine r_iconst (pc := 15) dX11_isPart_15 kc_iconst_0 ?_
    subst h
    exact r_zret dX11_isPart_16 (Or.inl rfl)
  · have h := ie h c
    refine r_iload_n (pc := 4) dX11_isPart_4 rfl 0 rfl ?_
    refine r_sipush (pc := 5) dX11_isPart_5 kc_sipush_1000 ?_
    refine r_icmp_gt (pc := 8) (tgt := 15) dX11_isPart_8 rfl (fun c => ?_) (fun c => ?_)
    · have h := it h c
      refine r_iconst (pc := 15) dX11_isPart_15 kc_iconst_0 ?_
      subst h
      exact r_zret dX11_isPart_16 (Or.inl rfl)
    · have h := ie h c
      refine r_iconst (pc := 11) dX11_isPart_11 kc_iconst_1 ?_
      refine r_goto (pc := 12) (tgt := 16) dX11_isPart_12 rfl ?_
      subst h
      exact r_zret dX11_isPart_16 (Or.inr rfl)
abbrev WX11_parts (G : Gx) (l : Launch) (σ0 : Shp) (X1 : Stt) (rv : Option SV) : Stt → Nat → List (Nat × SV) → List SV → Prop := Wm G l yX11_parts cX11_parts 6 (some .int) (fun _ => True) (rmx 1 25 σ0 X1.1) σ0 (Qmx G σ0 X1 rv)
def fX11_parts (σ : Shp) (I : Nat → Nat → Int32) (R : Nat → Nat → Option Nat) (t : Nat) (x1 : Int32) (x2 : Int32) (x3 : Int32) (x4 : Int32) (x5 : Int32) : Option ((Nat → Nat → Int32) × (Int32)) :=
  if (fX11_isPest x1) = 0 then
    some (I, (-2 : Int32))
  else
    if (fX11_isStage x2) = 0 then
      some (I, (-2 : Int32))
    else
      if (fX11_isPart x3) = 0 then
        some (I, (-2 : Int32))
      else
        if (fX11_isPart x4) = 0 then
          some (I, (-2 : Int32))
        else
          if (fX11_isPart x5) = 0 then
            some (I, (-2 : Int32))
          else
            if kdx σ t = 12 then
            ((R t 8) : Option Nat).bind fun a2 =>
            if kdx σ a2 = 6 then
            (fX5_setParts σ I R a2 x1 x2 x3 x4 x5).bind fun I4 =>
            some (I4, (1 : Int32))
            else none
            else none
theorem kX11_parts {G : Gx} {l : Launch} {σ : Shp} {I : Nat → Nat → Int32} {J : Nat → Nat → Int64} {D : Nat → Nat → UInt64} {R : Nat → Nat → Option Nat} {t : Nat} {x1 : Int32} {x2 : Int32} {x3 : Int32} {x4 : Int32} {x5 : Int32} {I9 : Nat → Nat → Int32} {r9 : Int32} (h : fX11_parts σ I R t x1 x2 x3 x4 x5 = some (I9, r9)) : Con G l yX11_parts cX11_parts 6 (some .int) 1 25 [vR (some t), vI x1, vI x2, vI x3, vI x4, vI x5] (σ, I, J, D, R) (σ, I9, J, D, R) (some (vI r9)) := by
  unfold fX11_parts at h
  refine Con.mk (by decide +kernel) rfl (Nat.le_of_ble_eq_true rfl) ?_
  show WX11_parts G l σ (σ, I9, J, D, R) (some (vI r9)) (σ, I, J, D, R) 0 _ []
  refine r_iload_n (pc := 0) dX11_parts_0 rfl 1 rfl ?_
  refine r_callS1 (pc := 1) (av := [vI x1]) (S := []) dX11_parts_1 (kX11_isPest rfl) mkX11_440 mwX11_isPest rfl ⟨Nat.le_of_ble_eq_true rfl, Nat.le_of_ble_eq_true rfl⟩ (Nat.le_of_ble_eq_true rfl) ⟨Nat.le_refl _, Nat.le_refl _⟩ (fun b => b) ?_
  refine r_if_eq (pc := 4) (tgt := 37) dX11_parts_4 rfl (fun c => ?_) (fun c => ?_)
  · have h := it h c
    refine r_bipush (pc := 37) dX11_parts_37 kc_bipush_m2 ?_
    cases h
    exact r_iret dX11_parts_39
  · have h := ie h c
    refine r_iload_n (pc := 7) dX11_parts_7 rfl 2 rfl ?_
    refine r_callS1 (pc := 8) (av := [vI x2]) (S := []) dX11_parts_8 (kX11_isStage rfl) mkX11_443 mwX11_isStage rfl ⟨Nat.le_of_ble_eq_true rfl, Nat.le_of_ble_eq_true rfl⟩ (Nat.le_of_ble_eq_true rfl) ⟨Nat.le_refl _, Nat.le_refl _⟩ (fun b => b) ?_
    refine r_if_eq (pc := 11) (tgt := 37) dX11_parts_11 rfl (fun c => ?_) (fun c => ?_)
    · have h := it h c
      refine r_bipush (pc := 37) dX11_parts_37 kc_bipush_m2 ?_
      cases h
      exact r_iret dX11_parts_39
    · have h := ie h c
      refine r_iload_n (pc := 14) dX11_parts_14 rfl 3 rfl ?_
      refine r_callS1 (pc := 15) (av := [vI x3]) (S := []) dX11_parts_15 (kX11_isPart rfl) mkX11_451 mwX11_isPart rfl ⟨Nat.le_of_ble_eq_true rfl, Nat.le_of_ble_eq_true rfl⟩ (Nat.le_of_ble_eq_true rfl) ⟨Nat.le_refl _, Nat.le_refl _⟩ (fun b => b) ?_
      refine r_if_eq (pc := 18) (tgt := 37) dX11_parts_18 rfl (fun c => ?_) (fun c => ?_)
      · have h := it h c
        refine r_bipush (pc := 37) dX11_parts_37 kc_bipush_m2 ?_
        cases h
        exact r_iret dX11_parts_39
      · have h := ie h c
        refine r_iload (pc := 21) dX11_parts_21 4 rfl ?_
        refine r_callS1 (pc := 23) (av := [vI x4]) (S := []) dX11_parts_23 (kX11_isPart rfl) mkX11_451 mwX11_isPart rfl ⟨Nat.le_of_ble_eq_true rfl, Nat.le_of_ble_eq_true rfl⟩ (Nat.le_of_ble_eq_true rfl) ⟨Nat.le_refl _, Nat.le_refl _⟩ (fun b => b) ?_
        refine r_if_eq (pc := 26) (tgt := 37) dX11_parts_26 rfl (fun c => ?_) (fun c => ?_)
        · have h := it h c
          refine r_bipush (pc := 37) dX11_parts_37 kc_bipush_m2 ?_
          cases h
          exact r_iret dX11_parts_39
        · have h := ie h c
          refine r_iload (pc := 29) dX11_parts_29 5 rfl ?_
          refine r_callS1 (pc := 31) (av := [vI x5]) (S := []) dX11_parts_31 (kX11_isPart rfl) mkX11_451 mwX11_isPart rfl ⟨Nat.le_of_ble_eq_true rfl, Nat.le_of_ble_eq_true rfl⟩ (Nat.le_of_ble_eq_true rfl) ⟨Nat.le_refl _, Nat.le_refl _⟩ (fun b => b) ?_
          refine r_ifne (pc := 34) (tgt := 40) dX11_parts_34 rfl (fun c => ?_) (fun c => ?_)
          · have h := ie h c
            refine r_aload_n (pc := 40) dX11_parts_40 rfl 0 rfl ?_
            obtain ⟨g1, h⟩ := gd h
            obtain ⟨a2, ha2, h⟩ := ob h
            refine r_getS (pc := 41) dX11_parts_41 fgX11_58 rfl g1 ha2 ?_
            refine r_iload_n (pc := 44) dX11_parts_44 rfl 1 rfl ?_
            refine r_iload_n (pc := 45) dX11_parts_45 rfl 2 rfl ?_
            refine r_iload_n (pc := 46) dX11_parts_46 rfl 3 rfl ?_
            refine r_iload (pc := 47) dX11_parts_47 4 rfl ?_
            refine r_iload (pc := 49) dX11_parts_49 5 rfl ?_
            obtain ⟨g3, h⟩ := gd h
            obtain ⟨I4, hc5, h⟩ := ob h
            refine r_callV0 (pc := 51) (av := [vI x1, vI x2, vI x3, vI x4, vI x5]) (S := []) dX11_parts_51 (kX5_setParts hc5) g3 rfl mkX11_454 mwX5_setParts rfl ⟨Nat.le_of_ble_eq_true rfl, Nat.le_of_ble_eq_true rfl⟩ (Nat.le_of_ble_eq_true rfl) ⟨Nat.le_refl _, Nat.le_refl _⟩ (fun b => b) ?_
            refine r_iconst (pc := 54) dX11_parts_54 kc_iconst_1 ?_
            cases h
            exact r_iret dX11_parts_55
          · have h := it h c
            refine r_bipush (pc := 37) dX11_parts_37 kc_bipush_m2 ?_
            cases h
            exact r_iret dX11_parts_39
abbrev WX11_day (G : Gx) (l : Launch) (σ0 : Shp) (X1 : Stt) (rv : Option SV) : Stt → Nat → List (Nat × SV) → List SV → Prop := Wm G l yX11_day cX11_day 3 (some .int) (fun _ => True) (rmx 3 75 σ0 X1.1) σ0 (Qmx G σ0 X1 rv)
def fX11_day_l34  (σ : Shp) (R : Nat → Nat → Option Nat) (t : Nat) : Nat → (Nat → Nat → Int32) → (Nat → Nat → Int64) → (Int32) → (Int32) → Option ((Nat → Nat → Int32) × (Nat → Nat → Int64) × (Int32))
  | 0, _, _, _, _ => none
  | n + 1, I, J, x1, x2 =>
    if x1 ≤ x2 then
      if kdx σ t = 12 then
      ((R t 8) : Option Nat).bind fun a5 =>
      if kdx σ a5 = 6 then
      some (I, J, (I a5 8))
      else none
      else none
    else
      if kdx σ t = 12 then
      ((R t 8) : Option Nat).bind fun a8 =>
      if kdx σ a8 = 6 then
      (fX5_passDay σ I J R a8).bind fun (I10, J11) =>
      let v13 := x2 + (1 : Int32)
      fX11_day_l34 σ R t n I10 J11 x1 v13
      else none
      else none
theorem wX11_day_l34 {G : Gx} {l : Launch} {σ : Shp} {D : Nat → Nat → UInt64} {R : Nat → Nat → Option Nat} {t : Nat} {I9 : Nat → Nat → Int32} {J9 : Nat → Nat → Int64} {r9 : Int32} : ∀ (n : Nat) (I : Nat → Nat → Int32) (J : Nat → Nat → Int64) (x1 : Int32) (x2 : Int32), fX11_day_l34 σ R t n I J x1 x2 = some (I9, J9, r9) → WX11_day G l σ (σ, I9, J9, D, R) (some (vI r9)) (σ, I, J, D, R) 34 [(0, vR (some t)), (1, vI x1), (2, vI x2)] [] := by
  intro n
  induction n with
  | zero =>
    intro I J x1 x2 h
    have h : none = some _ := h
    cases h
  | succ n ih =>
    intro I J x1 x2 h
    rw [fX11_day_l34] at h
    refine r_iload_n (pc := 34) dX11_day_34 rfl 2 rfl ?_
    refine r_iload_n (pc := 35) dX11_day_35 rfl 1 rfl ?_
    refine r_icmp_ge (pc := 36) (tgt := 52) dX11_day_36 rfl (fun c => ?_) (fun c => ?_)
    · have h := it h c
      refine r_aload_n (pc := 52) dX11_day_52 rfl 0 rfl ?_
      obtain ⟨g4, h⟩ := gd h
      obtain ⟨a5, ha5, h⟩ := ob h
      refine r_getS (pc := 53) dX11_day_53 fgX11_58 rfl g4 ha5 ?_
      obtain ⟨g6, h⟩ := gd h
      refine r_getI (pc := 56) dX11_day_56 fgX11_458 rfl g6 ?_
      cases h
      exact r_iret dX11_day_59
    · have h := ie h c
      refine r_aload_n (pc := 39) dX11_day_39 rfl 0 rfl ?_
      obtain ⟨g7, h⟩ := gd h
      obtain ⟨a8, ha8, h⟩ := ob h
      refine r_getS (pc := 40) dX11_day_40 fgX11_58 rfl g7 ha8 ?_
      obtain ⟨g9, h⟩ := gd h
      obtain ⟨⟨I10, J11⟩, hc12, h⟩ := ob h
      refine r_callV0 (pc := 43) (av := []) (S := []) dX11_day_43 (kX5_passDay hc12) g9 rfl mkX11_461 mwX5_passDay rfl ⟨Nat.le_of_ble_eq_true rfl, Nat.le_of_ble_eq_true rfl⟩ (Nat.le_of_ble_eq_true rfl) ⟨Nat.le_refl _, Nat.le_refl _⟩ (fun b => b) ?_
      refine r_iinc (pc := 46) (v := (x2 + (1 : Int32))) (L' := [(2, vI (x2 + (1 : Int32))), (0, vR (some t)), (1, vI x1)]) dX11_day_46 2 rfl (kc_inc_1 _) (by decide) rfl ?_
      refine r_goto (pc := 49) (tgt := 34) dX11_day_49 rfl ?_
      refine r_sub [1, 2, 0] rfl ?_
      exact ih _ _ _ _ h
def fX11_day (σ : Shp) (I : Nat → Nat → Int32) (J : Nat → Nat → Int64) (R : Nat → Nat → Option Nat) (t : Nat) (x1 : Int32) : Option ((Nat → Nat → Int32) × (Nat → Nat → Int64) × (Int32)) :=
  if x1 < (1 : Int32) then
    some (I, J, (-2 : Int32))
  else
    if x1 ≤ (50 : Int32) then
      if kdx σ t = 12 then
      ((R t 8) : Option Nat).bind fun a2 =>
      if kdx σ a2 = 6 then
      if ((I a2 8) + x1) ≤ (10000 : Int32) then
        fX11_day_l34 σ R t FUx I J x1 (0 : Int32)
      else
        some (I, J, (-4 : Int32))
      else none
      else none
    else
      some (I, J, (-2 : Int32))
theorem kX11_day {G : Gx} {l : Launch} {σ : Shp} {I : Nat → Nat → Int32} {J : Nat → Nat → Int64} {D : Nat → Nat → UInt64} {R : Nat → Nat → Option Nat} {t : Nat} {x1 : Int32} {I9 : Nat → Nat → Int32} {J9 : Nat → Nat → Int64} {r9 : Int32} (h : fX11_day σ I J R t x1 = some (I9, J9, r9)) : Con G l yX11_day cX11_day 3 (some .int) 3 75 [vR (some t), vI x1] (σ, I, J, D, R) (σ, I9, J9, D, R) (some (vI r9)) := by
  unfold fX11_day at h
  refine Con.mk (by decide +kernel) rfl (Nat.le_of_ble_eq_true rfl) ?_
  show WX11_day G l σ (σ, I9, J9, D, R) (some (vI r9)) (σ, I, J, D, R) 0 _ []
  refine r_iload_n (pc := 0) dX11_day_0 rfl 1 rfl ?_
  refine r_iconst (pc := 1) dX11_day_1 kc_iconst_1 ?_
  refine r_icmp_lt (pc := 2) (tgt := 11) dX11_day_2 rfl (fun c => ?_) (fun c => ?_)
  · have h := it h c
    refine r_bipush (pc := 11) dX11_day_11 kc_bipush_m2 ?_
    cases h
    exact r_iret dX11_day_13
  · have h := ie h c
    refine r_iload_n (pc := 5) dX11_day_5 rfl 1 rfl ?_
    refine r_bipush (pc := 6) dX11_day_6 kc_bipush_50 ?_
    refine r_icmp_le (pc := 8) (tgt := 14) dX11_day_8 rfl (fun c => ?_) (fun c => ?_)
    · have h := it h c
      refine r_aload_n (pc := 14) dX11_day_14 rfl 0 rfl ?_
      obtain ⟨g1, h⟩ := gd h
      obtain ⟨a2, ha2, h⟩ := ob h
      refine r_getS (pc := 15) dX11_day_15 fgX11_58 rfl g1 ha2 ?_
      obtain ⟨g3, h⟩ := gd h
      refine r_getI (pc := 18) dX11_day_18 fgX11_458 rfl g3 ?_
      refine r_iload_n (pc := 21) dX11_day_21 rfl 1 rfl ?_
      refine r_iadd (pc := 22) dX11_day_22 ?_
      refine r_sipush (pc := 23) dX11_day_23 kc_sipush_10000 ?_
      refine r_icmp_le (pc := 26) (tgt := 32) dX11_day_26 rfl (fun c => ?_) (fun c => ?_)
      · have h := it h c
        refine r_iconst (pc := 32) dX11_day_32 kc_iconst_0 ?_
        refine r_istore_n (pc := 33) (L' := [(2, vI (0 : Int32)), (0, vR (some t)), (1, vI x1)]) dX11_day_33 rfl (by decide) rfl ?_
        refine r_sub [1, 2, 0] rfl ?_
        exact wX11_day_l34 _ _ _ _ _ h
      · have h := ie h c
        refine r_bipush (pc := 29) dX11_day_29 kc_bipush_m4 ?_
        cases h
        exact r_iret dX11_day_31
    · have h := ie h c
      refine r_bipush (pc := 11) dX11_day_11 kc_bipush_m2 ?_
      cases h
      exact r_iret dX11_day_13
abbrev WX11_spray (G : Gx) (l : Launch) (σ0 : Shp) (X1 : Stt) (rv : Option SV) : Stt → Nat → List (Nat × SV) → List SV → Prop := Wm G l yX11_spray cX11_spray 2 (some .int) (fun _ => True) (rmx 1 22 σ0 X1.1) σ0 (Qmx G σ0 X1 rv)
def fX11_spray (σ : Shp) (I : Nat → Nat → Int32) (J : Nat → Nat → Int64) (R : Nat → Nat → Option Nat) (t : Nat) (x1 : Int32) : Option ((Nat → Nat → Int32) × (Nat → Nat → Int64) × (Int32)) :=
  if (fX11_isPest x1) = 0 then
    some (I, J, (-2 : Int32))
  else
    if kdx σ t = 12 then
    ((R t 8) : Option Nat).bind fun a2 =>
    if kdx σ a2 = 6 then
    (fX5_lessen σ I J R a2 x1).bind fun (I4, J5) =>
    some (I4, J5, (1 : Int32))
    else none
    else none
theorem kX11_spray {G : Gx} {l : Launch} {σ : Shp} {I : Nat → Nat → Int32} {J : Nat → Nat → Int64} {D : Nat → Nat → UInt64} {R : Nat → Nat → Option Nat} {t : Nat} {x1 : Int32} {I9 : Nat → Nat → Int32} {J9 : Nat → Nat → Int64} {r9 : Int32} (h : fX11_spray σ I J R t x1 = some (I9, J9, r9)) : Con G l yX11_spray cX11_spray 2 (some .int) 1 22 [vR (some t), vI x1] (σ, I, J, D, R) (σ, I9, J9, D, R) (some (vI r9)) := by
  unfold fX11_spray at h
  refine Con.mk (by decide +kernel) rfl (Nat.le_of_ble_eq_true rfl) ?_
  show WX11_spray G l σ (σ, I9, J9, D, R) (some (vI r9)) (σ, I, J, D, R) 0 _ []
  refine r_iload_n (pc := 0) dX11_spray_0 rfl 1 rfl ?_
  refine r_callS1 (pc := 1) (av := [vI x1]) (S := []) dX11_spray_1 (kX11_isPest rfl) mkX11_440 mwX11_isPest rfl ⟨Nat.le_of_ble_eq_true rfl, Nat.le_of_ble_eq_true rfl⟩ (Nat.le_of_ble_eq_true rfl) ⟨Nat.le_refl _, Nat.le_refl _⟩ (fun b => b) ?_
  refine r_ifne (pc := 4) (tgt := 10) dX11_spray_4 rfl (fun c => ?_) (fun c => ?_)
  · have h := ie h c
    refine r_aload_n (pc := 10) dX11_spray_10 rfl 0 rfl ?_
    obtain ⟨g1, h⟩ := gd h
    obtain ⟨a2, ha2, h⟩ := ob h
    refine r_getS (pc := 11) dX11_spray_11 fgX11_58 rfl g1 ha2 ?_
    refine r_iload_n (pc := 14) dX11_spray_14 rfl 1 rfl ?_
    obtain ⟨g3, h⟩ := gd h
    obtain ⟨⟨I4, J5⟩, hc6, h⟩ := ob h
    refine r_callV0 (pc := 15) (av := [vI x1]) (S := []) dX11_spray_15 (kX5_lessen hc6) g3 rfl mkX11_464 mwX5_lessen rfl ⟨Nat.le_of_ble_eq_true rfl, Nat.le_of_ble_eq_true rfl⟩ (Nat.le_of_ble_eq_true rfl) ⟨Nat.le_refl _, Nat.le_refl _⟩ (fun b => b) ?_
    refine r_iconst (pc := 18) dX11_spray_18 kc_iconst_1 ?_
    cases h
    exact r_iret dX11_spray_19
  · have h := it h c
    refine r_bipush (pc := 7) dX11_spray_7 kc_bipush_m2 ?_
    cases h
    exact r_iret dX11_spray_9
abbrev WX11_pest (G : Gx) (l : Launch) (σ0 : Shp) (X1 : Stt) (rv : Option SV) : Stt → Nat → List (Nat × SV) → List SV → Prop := Wm G l yX11_pest cX11_pest 3 (some .int) (fun _ => True) (rmx 1 20 σ0 X1.1) σ0 (Qmx G σ0 X1 rv)
def fX11_pest (σ : Shp) (J : Nat → Nat → Int64) (R : Nat → Nat → Option Nat) (t : Nat) (x1 : Int32) (x2 : Int32) : Option ((Int32)) :=
  if (fX11_isPest x1) = 0 then
    some (-2 : Int32)
  else
    if (fX11_isStage x2) = 0 then
      some (-2 : Int32)
    else
      if kdx σ t = 12 then
      ((R t 8) : Option Nat).bind fun a2 =>
      if kdx σ a2 = 6 then
      ((R a2 0) : Option Nat).bind fun a4 =>
      if kdx σ a4 = 29 then
      if ¬ (x1 < 0 ∨ lnx σ a4 ≤ Int32.toNatClampNeg x1) then
      ((R a4 (Int32.toNatClampNeg x1)) : Option Nat).bind fun a7 =>
      if kdx σ a7 = 21 then
      if ¬ (x2 < 0 ∨ lnx σ a7 ≤ Int32.toNatClampNeg x2) then
      some (Int64.toInt32 (J a7 (Int32.toNatClampNeg x2)))
      else none
      else none
      else none
      else none
      else none
      else none
theorem kX11_pest {G : Gx} {l : Launch} {σ : Shp} {I : Nat → Nat → Int32} {J : Nat → Nat → Int64} {D : Nat → Nat → UInt64} {R : Nat → Nat → Option Nat} {t : Nat} {x1 : Int32} {x2 : Int32} {r9 : Int32} (h : fX11_pest σ J R t x1 x2 = some r9) : Con G l yX11_pest cX11_pest 3 (some .int) 1 20 [vR (some t), vI x1, vI x2] (σ, I, J, D, R) (σ, I, J, D, R) (some (vI r9)) := by
  unfold fX11_pest at h
  refine Con.mk (by decide +kernel) rfl (Nat.le_of_ble_eq_true rfl) ?_
  show WX11_pest G l σ (σ, I, J, D, R) (some (vI r9)) (σ, I, J, D, R) 0 _ []
  refine r_iload_n (pc := 0) dX11_pest_0 rfl 1 rfl ?_
  refine r_callS1 (pc := 1) (av := [vI x1]) (S := []) dX11_pest_1 (kX11_isPest rfl) mkX11_440 mwX11_isPest rfl ⟨Nat.le_of_ble_eq_true rfl, Nat.le_of_ble_eq_true rfl⟩ (Nat.le_of_ble_eq_true rfl) ⟨Nat.le_refl _, Nat.le_refl _⟩ (fun b => b) ?_
  refine r_if_eq (pc := 4) (tgt := 29) dX11_pest_4 rfl (fun c => ?_) (fun c => ?_)
  · have h := it h c
    refine r_bipush (pc := 29) dX11_pest_29 kc_bipush_m2 ?_
    cases h
    exact r_iret dX11_pest_31
  · have h := ie h c
    refine r_iload_n (pc := 7) dX11_pest_7 rfl 2 rfl ?_
    refine r_callS1 (pc := 8) (av := [vI x2]) (S := []) dX11_pest_8 (kX11_isStage rfl) mkX11_443 mwX11_isStage rfl ⟨Nat.le_of_ble_eq_true rfl, Nat.le_of_ble_eq_true rfl⟩ (Nat.le_of_ble_eq_true rfl) ⟨Nat.le_refl _, Nat.le_refl _⟩ (fun b => b) ?_
    refine r_if_eq (pc := 11) (tgt := 29) dX11_pest_11 rfl (fun c => ?_) (fun c => ?_)
    · have h := it h c
      refine r_bipush (pc := 29) dX11_pest_29 kc_bipush_m2 ?_
      cases h
      exact r_iret dX11_pest_31
    · have h := ie h c
      refine r_aload_n (pc := 14) dX11_pest_14 rfl 0 rfl ?_
      obtain ⟨g1, h⟩ := gd h
      obtain ⟨a2, ha2, h⟩ := ob h
      refine r_getS (pc := 15) dX11_pest_15 fgX11_58 rfl g1 ha2 ?_
      obtain ⟨g3, h⟩ := gd h
      obtain ⟨a4, ha4, h⟩ := ob h
      refine r_getS (pc := 18) dX11_pest_18 fgX11_448 rfl g3 ha4 ?_
      refine r_iload_n (pc := 21) dX11_pest_21 rfl 1 rfl ?_
      obtain ⟨g5, h⟩ := gd h
      obtain ⟨g6, h⟩ := gd h
      refine r_aaload (pc := 22) dX11_pest_22 g5 (by decide) g6 ?_
      obtain ⟨a7, ha7, h⟩ := ob h
      refine r_ref0 ha7 ?_
      refine r_iload_n (pc := 23) dX11_pest_23 rfl 2 rfl ?_
      obtain ⟨g8, h⟩ := gd h
      obtain ⟨g9, h⟩ := gd h
      refine r_laload (pc := 24) dX11_pest_24 g8 g9 ?_
      refine r_l2i (pc := 25) dX11_pest_25 ?_
      refine r_goto (pc := 26) (tgt := 31) dX11_pest_26 rfl ?_
      cases h
      exact r_iret dX11_pest_31
abbrev WX11_wait1 (G : Gx) (l : Launch) (σ0 : Shp) (X1 : Stt) (rv : Option SV) : Stt → Nat → List (Nat × SV) → List SV → Prop := Wm G l yX11_wait1 cX11_wait1 1 (some .int) (fun _ => True) (rmx 0 0 σ0 X1.1) σ0 (Qmx G σ0 X1 rv)
def fX11_wait1 (σ : Shp) (I : Nat → Nat → Int32) (R : Nat → Nat → Option Nat) (t : Nat)  : Option ((Int32)) :=
  if kdx σ t = 12 then
  ((R t 8) : Option Nat).bind fun a2 =>
  if kdx σ a2 = 6 then
  some (I a2 9)
  else none
  else none
theorem kX11_wait1 {G : Gx} {l : Launch} {σ : Shp} {I : Nat → Nat → Int32} {J : Nat → Nat → Int64} {D : Nat → Nat → UInt64} {R : Nat → Nat → Option Nat} {t : Nat}  {r9 : Int32} (h : fX11_wait1 σ I R t = some r9) : Con G l yX11_wait1 cX11_wait1 1 (some .int) 0 0 [vR (some t)] (σ, I, J, D, R) (σ, I, J, D, R) (some (vI r9)) := by
  unfold fX11_wait1 at h
  refine Con.mk (by decide +kernel) rfl (Nat.le_of_ble_eq_true rfl) ?_
  show WX11_wait1 G l σ (σ, I, J, D, R) (some (vI r9)) (σ, I, J, D, R) 0 _ []
  refine r_aload_n (pc := 0) dX11_wait1_0 rfl 0 rfl ?_
  obtain ⟨g1, h⟩ := gd h
  obtain ⟨a2, ha2, h⟩ := ob h
  refine r_getS (pc := 1) dX11_wait1_1 fgX11_58 rfl g1 ha2 ?_
  obtain ⟨g3, h⟩ := gd h
  refine r_getI (pc := 4) dX11_wait1_4 fgX11_468 rfl g3 ?_
  cases h
  exact r_iret dX11_wait1_7
abbrev WX11_write (G : Gx) (l : Launch) (σ0 : Shp) (X1 : Stt) (rv : Option SV) : Stt → Nat → List (Nat × SV) → List SV → Prop := Wm G l yX11_write cX11_write 3 (some .int) (fun _ => True) (rmx 4 92 σ0 X1.1) σ0 (Qmx G σ0 X1 rv)
def fX11_write (σ : Shp) (I : Nat → Nat → Int32) (J : Nat → Nat → Int64) (R : Nat → Nat → Option Nat) (t : Nat) (x1 : Int32) : Option ((Nat → Nat → Int32) × (Int32)) :=
  if (fX11_isBin x1) = 0 then
    some (I, (-2 : Int32))
  else
    if kdx σ t = 12 then
    ((R t 1) : Option Nat).bind fun a2 =>
    if kdx σ a2 = 26 then
    if ¬ (x1 < 0 ∨ lnx σ a2 ≤ Int32.toNatClampNeg x1) then
    let v5 := (R a2 (Int32.toNatClampNeg x1))
    onl v5
      (
        (fX11_fail σ I t (1 : Int32)).bind fun (I7, r8) =>
        some (I7, r8))
      (fun a6 =>
        if kdx σ a6 = 11 then
        if (fX1_writes (I a6 0)) = 0 then
          (fX11_fail σ I t (4 : Int32)).bind fun (I17, r18) =>
          some (I17, r18)
        else
          ((R t 9) : Option Nat).bind fun a11 =>
          ((R a6 1) : Option Nat).bind fun a12 =>
          if kdx σ a11 = 2 then
          (fX1_written σ I J R a11 (I a6 0) (some a12)).bind fun (I14, r15) =>
          some (I14, r15)
          else none
        else none)
    else none
    else none
    else none
theorem kX11_write {G : Gx} {l : Launch} {σ : Shp} {I : Nat → Nat → Int32} {J : Nat → Nat → Int64} {D : Nat → Nat → UInt64} {R : Nat → Nat → Option Nat} {t : Nat} {x1 : Int32} {I9 : Nat → Nat → Int32} {r9 : Int32} (h : fX11_write σ I J R t x1 = some (I9, r9)) : Con G l yX11_write cX11_write 3 (some .int) 4 92 [vR (some t), vI x1] (σ, I, J, D, R) (σ, I9, J, D, R) (some (vI r9)) := by
  unfold fX11_write at h
  refine Con.mk (by decide +kernel) rfl (Nat.le_of_ble_eq_true rfl) ?_
  show WX11_write G l σ (σ, I9, J, D, R) (some (vI r9)) (σ, I, J, D, R) 0 _ []
  refine r_iload_n (pc := 0) dX11_write_0 rfl 1 rfl ?_
  refine r_callS1 (pc := 1) (av := [vI x1]) (S := []) dX11_write_1 (kX11_isBin rfl) mkX11_76 mwX11_isBin rfl ⟨Nat.le_of_ble_eq_true rfl, Nat.le_of_ble_eq_true rfl⟩ (Nat.le_of_ble_eq_true rfl) ⟨Nat.le_refl _, Nat.le_refl _⟩ (fun b => b) ?_
  refine r_ifne (pc := 4) (tgt := 10) dX11_write_4 rfl (fun c => ?_) (fun c => ?_)
  · have h := ie h c
    refine r_aload_n (pc := 10) dX11_write_10 rfl 0 rfl ?_
    obtain ⟨g1, h⟩ := gd h
    obtain ⟨a2, ha2, h⟩ := ob h
    refine r_getS (pc := 11) dX11_write_11 fgX11_20 rfl g1 ha2 ?_
    refine r_iload_n (pc := 14) dX11_write_14 rfl 1 rfl ?_
    obtain ⟨g3, h⟩ := gd h
    obtain ⟨g4, h⟩ := gd h
    refine r_aaload (pc := 15) dX11_write_15 g3 (by decide) g4 ?_
    refine r_astore_n (pc := 16) (L' := [(2, vR (R a2 (Int32.toNatClampNeg x1))), (0, vR (some t)), (1, vI x1)]) dX11_write_16 rfl (by decide) rfl ?_
    refine r_aload_n (pc := 17) dX11_write_17 rfl 0 rfl ?_
    rcases onl_c h with ⟨ea6, h⟩ | ⟨a6, ha6, h⟩
    · refine r_ref0n ea6 ?_
      refine r_ifnonnull_n (pc := 18) dX11_write_18 ?_
      refine r_aload_n (pc := 21) dX11_write_21 rfl 1 rfl ?_
      refine r_iconst (pc := 22) dX11_write_22 kc_iconst_1 ?_
      obtain ⟨⟨I7, r8⟩, hc9, h⟩ := ob h
      refine r_callV1 (pc := 23) (av := [vI (1 : Int32)]) (S := []) dX11_write_23 (kX11_fail hc9) g1 rfl mkX11_87 mwX11_fail rfl ⟨Nat.le_of_ble_eq_true rfl, Nat.le_of_ble_eq_true rfl⟩ (Nat.le_of_ble_eq_true rfl) ⟨Nat.le_refl _, Nat.le_refl _⟩ (fun b => b) ?_
      cases h
      exact r_iret dX11_write_26
    · refine r_ref0 ha6 ?_
      refine r_ifnonnull_s (pc := 18) (tgt := 27) dX11_write_18 rfl ?_
      refine r_aload_n (pc := 27) dX11_write_27 rfl 0 rfl ?_
      refine r_ref0 ha6 ?_
      obtain ⟨g10, h⟩ := gd h
      refine r_getI (pc := 28) dX11_write_28 fgX11_113 rfl g10 ?_
      refine r_callS1 (pc := 31) (av := [vI (I a6 0)]) (S := []) dX11_write_31 (kX1_writes rfl) mkX11_471 mwX1_writes rfl ⟨Nat.le_of_ble_eq_true rfl, Nat.le_of_ble_eq_true rfl⟩ (Nat.le_of_ble_eq_true rfl) ⟨Nat.le_refl _, Nat.le_refl _⟩ (fun b => b) ?_
      refine r_ifne (pc := 34) (tgt := 43) dX11_write_34 rfl (fun c => ?_) (fun c => ?_)
      · have h := ie h c
        refine r_aload_n (pc := 43) dX11_write_43 rfl 1 rfl ?_
        obtain ⟨a11, ha11, h⟩ := ob h
        refine r_getS (pc := 44) dX11_write_44 fgX11_65 rfl g1 ha11 ?_
        refine r_aload_n (pc := 47) dX11_write_47 rfl 0 rfl ?_
        refine r_ref0 ha6 ?_
        refine r_getI (pc := 48) dX11_write_48 fgX11_113 rfl g10 ?_
        refine r_aload_n (pc := 51) dX11_write_51 rfl 0 rfl ?_
        refine r_ref0 ha6 ?_
        obtain ⟨a12, ha12, h⟩ := ob h
        refine r_getS (pc := 52) dX11_write_52 fgX11_134 rfl g10 ha12 ?_
        obtain ⟨g13, h⟩ := gd h
        obtain ⟨⟨I14, r15⟩, hc16, h⟩ := ob h
        refine r_callV1 (pc := 55) (av := [vI (I a6 0), vR (some a12)]) (S := []) dX11_write_55 (kX1_written hc16) g13 rfl mkX11_474 mwX1_written rfl ⟨Nat.le_of_ble_eq_true rfl, Nat.le_of_ble_eq_true rfl⟩ (Nat.le_of_ble_eq_true rfl) ⟨Nat.le_refl _, Nat.le_refl _⟩ (fun b => b) ?_
        cases h
        exact r_iret dX11_write_58
      · have h := it h c
        refine r_aload_n (pc := 37) dX11_write_37 rfl 1 rfl ?_
        refine r_iconst (pc := 38) dX11_write_38 kc_iconst_4 ?_
        obtain ⟨⟨I17, r18⟩, hc19, h⟩ := ob h
        refine r_callV1 (pc := 39) (av := [vI (4 : Int32)]) (S := []) dX11_write_39 (kX11_fail hc19) g1 rfl mkX11_87 mwX11_fail rfl ⟨Nat.le_of_ble_eq_true rfl, Nat.le_of_ble_eq_true rfl⟩ (Nat.le_of_ble_eq_true rfl) ⟨Nat.le_refl _, Nat.le_refl _⟩ (fun b => b) ?_
        cases h
        exact r_iret dX11_write_42
  · have h := it h c
    refine r_bipush (pc := 7) dX11_write_7 kc_bipush_m2 ?_
    cases h
    exact r_iret dX11_write_9
abbrev WX11_power (G : Gx) (l : Launch) (σ0 : Shp) (X1 : Stt) (rv : Option SV) : Stt → Nat → List (Nat × SV) → List SV → Prop := Wm G l yX11_power cX11_power 2 (some .int) (fun _ => True) (rmx 1 21 σ0 X1.1) σ0 (Qmx G σ0 X1 rv)
def fX11_power (σ : Shp) (I : Nat → Nat → Int32) (R : Nat → Nat → Option Nat) (t : Nat) (x1 : Int32) : Option ((Nat → Nat → Int32) × (Int32)) :=
  if x1 < (-1 : Int32) then
    some (I, (-2 : Int32))
  else
    if x1 ≤ (200 : Int32) then
      if kdx σ t = 12 then
      ((R t 9) : Option Nat).bind fun a2 =>
      if kdx σ a2 = 2 then
      (fX1_powerSet σ I a2 x1).bind fun (I4, r5) =>
      some (I4, r5)
      else none
      else none
    else
      some (I, (-2 : Int32))
theorem kX11_power {G : Gx} {l : Launch} {σ : Shp} {I : Nat → Nat → Int32} {J : Nat → Nat → Int64} {D : Nat → Nat → UInt64} {R : Nat → Nat → Option Nat} {t : Nat} {x1 : Int32} {I9 : Nat → Nat → Int32} {r9 : Int32} (h : fX11_power σ I R t x1 = some (I9, r9)) : Con G l yX11_power cX11_power 2 (some .int) 1 21 [vR (some t), vI x1] (σ, I, J, D, R) (σ, I9, J, D, R) (some (vI r9)) := by
  unfold fX11_power at h
  refine Con.mk (by decide +kernel) rfl (Nat.le_of_ble_eq_true rfl) ?_
  show WX11_power G l σ (σ, I9, J, D, R) (some (vI r9)) (σ, I, J, D, R) 0 _ []
  refine r_iload_n (pc := 0) dX11_power_0 rfl 1 rfl ?_
  refine r_iconst (pc := 1) dX11_power_1 kc_iconst_m1 ?_
  refine r_icmp_lt (pc := 2) (tgt := 12) dX11_power_2 rfl (fun c => ?_) (fun c => ?_)
  · have h := it h c
    refine r_bipush (pc := 12) dX11_power_12 kc_bipush_m2 ?_
    cases h
    exact r_iret dX11_power_14
  · have h := ie h c
    refine r_iload_n (pc := 5) dX11_power_5 rfl 1 rfl ?_
    refine r_sipush (pc := 6) dX11_power_6 kc_sipush_200 ?_
    refine r_icmp_le (pc := 9) (tgt := 15) dX11_power_9 rfl (fun c => ?_) (fun c => ?_)
    · have h := it h c
      refine r_aload_n (pc := 15) dX11_power_15 rfl 0 rfl ?_
      obtain ⟨g1, h⟩ := gd h
      obtain ⟨a2, ha2, h⟩ := ob h
      refine r_getS (pc := 16) dX11_power_16 fgX11_65 rfl g1 ha2 ?_
      refine r_iload_n (pc := 19) dX11_power_19 rfl 1 rfl ?_
      obtain ⟨g3, h⟩ := gd h
      obtain ⟨⟨I4, r5⟩, hc6, h⟩ := ob h
      refine r_callV1 (pc := 20) (av := [vI x1]) (S := []) dX11_power_20 (kX1_powerSet hc6) g3 rfl mkX11_478 mwX1_powerSet rfl ⟨Nat.le_of_ble_eq_true rfl, Nat.le_of_ble_eq_true rfl⟩ (Nat.le_of_ble_eq_true rfl) ⟨Nat.le_refl _, Nat.le_refl _⟩ (fun b => b) ?_
      cases h
      exact r_iret dX11_power_23
    · have h := ie h c
      refine r_bipush (pc := 12) dX11_power_12 kc_bipush_m2 ?_
      cases h
      exact r_iret dX11_power_14
abbrev WX11_open1 (G : Gx) (l : Launch) (σ0 : Shp) (X1 : Stt) (rv : Option SV) : Stt → Nat → List (Nat × SV) → List SV → Prop := Wm G l yX11_open1 cX11_open1 1 (some .int) (fun _ => True) (rmx 7 164 σ0 X1.1) σ0 (Qmx G σ0 X1 rv)
def fX11_open1 (σ : Shp) (I : Nat → Nat → Int32) (R : Nat → Nat → Option Nat) (t : Nat)  : Option ((Nat → Nat → Int32) × (Int32)) :=
  if kdx σ t = 12 then
  ((R t 9) : Option Nat).bind fun a2 =>
  if kdx σ a2 = 2 then
  (fX1_opened σ I R a2).bind fun (I4, r5) =>
  some (I4, r5)
  else none
  else none
theorem kX11_open1 {G : Gx} {l : Launch} {σ : Shp} {I : Nat → Nat → Int32} {J : Nat → Nat → Int64} {D : Nat → Nat → UInt64} {R : Nat → Nat → Option Nat} {t : Nat}  {I9 : Nat → Nat → Int32} {r9 : Int32} (h : fX11_open1 σ I R t = some (I9, r9)) : Con G l yX11_open1 cX11_open1 1 (some .int) 7 164 [vR (some t)] (σ, I, J, D, R) (σ, I9, J, D, R) (some (vI r9)) := by
  unfold fX11_open1 at h
  refine Con.mk (by decide +kernel) rfl (Nat.le_of_ble_eq_true rfl) ?_
  show WX11_open1 G l σ (σ, I9, J, D, R) (some (vI r9)) (σ, I, J, D, R) 0 _ []
  refine r_aload_n (pc := 0) dX11_open1_0 rfl 0 rfl ?_
  obtain ⟨g1, h⟩ := gd h
  obtain ⟨a2, ha2, h⟩ := ob h
  refine r_getS (pc := 1) dX11_open1_1 fgX11_65 rfl g1 ha2 ?_
  obtain ⟨g3, h⟩ := gd h
  obtain ⟨⟨I4, r5⟩, hc6, h⟩ := ob h
  refine r_callV1 (pc := 4) (av := []) (S := []) dX11_open1_4 (kX1_opened hc6) g3 rfl mkX11_481 mwX1_opened rfl ⟨Nat.le_of_ble_eq_true rfl, Nat.le_of_ble_eq_true rfl⟩ (Nat.le_of_ble_eq_true rfl) ⟨Nat.le_refl _, Nat.le_refl _⟩ (fun b => b) ?_
  cases h
  exact r_iret dX11_open1_7
abbrev WX11_page (G : Gx) (l : Launch) (σ0 : Shp) (X1 : Stt) (rv : Option SV) : Stt → Nat → List (Nat × SV) → List SV → Prop := Wm G l yX11_page cX11_page 3 (some .long) (fun _ => True) (rmx 7 166 σ0 X1.1) σ0 (Qmx G σ0 X1 rv)
def fX11_page (σ : Shp) (I : Nat → Nat → Int32) (R : Nat → Nat → Option Nat) (t : Nat) (x1 : Int32) (x2 : Int32) : Option ((Nat → Nat → Int32) × (Int64)) :=
  if kdx σ t = 12 then
  ((R t 9) : Option Nat).bind fun a2 =>
  if kdx σ a2 = 2 then
  (fX1_readOf σ I R a2 x1 x2).bind fun (I4, r5) =>
  some (I4, r5)
  else none
  else none
theorem kX11_page {G : Gx} {l : Launch} {σ : Shp} {I : Nat → Nat → Int32} {J : Nat → Nat → Int64} {D : Nat → Nat → UInt64} {R : Nat → Nat → Option Nat} {t : Nat} {x1 : Int32} {x2 : Int32} {I9 : Nat → Nat → Int32} {r9 : Int64} (h : fX11_page σ I R t x1 x2 = some (I9, r9)) : Con G l yX11_page cX11_page 3 (some .long) 7 166 [vR (some t), vI x1, vI x2] (σ, I, J, D, R) (σ, I9, J, D, R) (some (vL r9)) := by
  unfold fX11_page at h
  refine Con.mk (by decide +kernel) rfl (Nat.le_of_ble_eq_true rfl) ?_
  show WX11_page G l σ (σ, I9, J, D, R) (some (vL r9)) (σ, I, J, D, R) 0 _ []
  refine r_aload_n (pc := 0) dX11_page_0 rfl 0 rfl ?_
  obtain ⟨g1, h⟩ := gd h
  obtain ⟨a2, ha2, h⟩ := ob h
  refine r_getS (pc := 1) dX11_page_1 fgX11_65 rfl g1 ha2 ?_
  refine r_iload_n (pc := 4) dX11_page_4 rfl 1 rfl ?_
  refine r_iload_n (pc := 5) dX11_page_5 rfl 2 rfl ?_
  obtain ⟨g3, h⟩ := gd h
  obtain ⟨⟨I4, r5⟩, hc6, h⟩ := ob h
  refine r_callV1 (pc := 6) (av := [vI x1, vI x2]) (S := []) dX11_page_6 (kX1_readOf hc6) g3 rfl mkX11_484 mwX1_readOf rfl ⟨Nat.le_of_ble_eq_true rfl, Nat.le_of_ble_eq_true rfl⟩ (Nat.le_of_ble_eq_true rfl) ⟨Nat.le_refl _, Nat.le_refl _⟩ (fun b => b) ?_
  cases h
  exact r_lret dX11_page_9
abbrev WX11_octet (G : Gx) (l : Launch) (σ0 : Shp) (X1 : Stt) (rv : Option SV) : Stt → Nat → List (Nat × SV) → List SV → Prop := Wm G l yX11_octet cX11_octet 3 (some .int) (fun _ => True) (rmx 1 21 σ0 X1.1) σ0 (Qmx G σ0 X1 rv)
def fX11_octet (σ : Shp) (I : Nat → Nat → Int32) (R : Nat → Nat → Option Nat) (t : Nat) (x1 : Int32) (x2 : Int32) : Option ((Int32)) :=
  if (fX1_isByte x1 x2) = 0 then
    some (-2 : Int32)
  else
    if kdx σ t = 12 then
    ((R t 9) : Option Nat).bind fun a2 =>
    if kdx σ a2 = 2 then
    ((R a2 0) : Option Nat).bind fun a4 =>
    if kdx σ a4 = 20 then
    if ¬ (((x1 * (64 : Int32)) + x2) < 0 ∨ lnx σ a4 ≤ Int32.toNatClampNeg ((x1 * (64 : Int32)) + x2)) then
    some (I a4 (Int32.toNatClampNeg ((x1 * (64 : Int32)) + x2)))
    else none
    else none
    else none
    else none
theorem kX11_octet {G : Gx} {l : Launch} {σ : Shp} {I : Nat → Nat → Int32} {J : Nat → Nat → Int64} {D : Nat → Nat → UInt64} {R : Nat → Nat → Option Nat} {t : Nat} {x1 : Int32} {x2 : Int32} {r9 : Int32} (h : fX11_octet σ I R t x1 x2 = some r9) : Con G l yX11_octet cX11_octet 3 (some .int) 1 21 [vR (some t), vI x1, vI x2] (σ, I, J, D, R) (σ, I, J, D, R) (some (vI r9)) := by
  unfold fX11_octet at h
  refine Con.mk (by decide +kernel) rfl (Nat.le_of_ble_eq_true rfl) ?_
  show WX11_octet G l σ (σ, I, J, D, R) (some (vI r9)) (σ, I, J, D, R) 0 _ []
  refine r_iload_n (pc := 0) dX11_octet_0 rfl 1 rfl ?_
  refine r_iload_n (pc := 1) dX11_octet_1 rfl 2 rfl ?_
  refine r_callS1 (pc := 2) (av := [vI x1, vI x2]) (S := []) dX11_octet_2 (kX1_isByte rfl) mkX11_487 mwX1_isByte rfl ⟨Nat.le_of_ble_eq_true rfl, Nat.le_of_ble_eq_true rfl⟩ (Nat.le_of_ble_eq_true rfl) ⟨Nat.le_refl _, Nat.le_refl _⟩ (fun b => b) ?_
  refine r_if_eq (pc := 5) (tgt := 25) dX11_octet_5 rfl (fun c => ?_) (fun c => ?_)
  · have h := it h c
    refine r_bipush (pc := 25) dX11_octet_25 kc_bipush_m2 ?_
    cases h
    exact r_iret dX11_octet_27
  · have h := ie h c
    refine r_aload_n (pc := 8) dX11_octet_8 rfl 0 rfl ?_
    obtain ⟨g1, h⟩ := gd h
    obtain ⟨a2, ha2, h⟩ := ob h
    refine r_getS (pc := 9) dX11_octet_9 fgX11_65 rfl g1 ha2 ?_
    obtain ⟨g3, h⟩ := gd h
    obtain ⟨a4, ha4, h⟩ := ob h
    refine r_getS (pc := 12) dX11_octet_12 fgX11_490 rfl g3 ha4 ?_
    refine r_iload_n (pc := 15) dX11_octet_15 rfl 1 rfl ?_
    refine r_bipush (pc := 16) dX11_octet_16 kc_bipush_64 ?_
    refine r_imul (pc := 18) dX11_octet_18 ?_
    refine r_iload_n (pc := 19) dX11_octet_19 rfl 2 rfl ?_
    refine r_iadd (pc := 20) dX11_octet_20 ?_
    obtain ⟨g5, h⟩ := gd h
    obtain ⟨g6, h⟩ := gd h
    refine r_iaload (pc := 21) dX11_octet_21 g5 g6 ?_
    refine r_goto (pc := 22) (tgt := 27) dX11_octet_22 rfl ?_
    cases h
    exact r_iret dX11_octet_27
abbrev WX11_damage (G : Gx) (l : Launch) (σ0 : Shp) (X1 : Stt) (rv : Option SV) : Stt → Nat → List (Nat × SV) → List SV → Prop := Wm G l yX11_damage cX11_damage 4 (some .int) (fun _ => True) (rmx 1 21 σ0 X1.1) σ0 (Qmx G σ0 X1 rv)
def fX11_damage (σ : Shp) (I : Nat → Nat → Int32) (R : Nat → Nat → Option Nat) (t : Nat) (x1 : Int32) (x2 : Int32) (x3 : Int32) : Option ((Nat → Nat → Int32) × (Int32)) :=
  if (fX1_isByte x1 x2) = 0 then
    some (I, (-2 : Int32))
  else
    if x3 < 0 then
      some (I, (-2 : Int32))
    else
      if x3 ≤ (255 : Int32) then
        if kdx σ t = 12 then
        ((R t 9) : Option Nat).bind fun a2 =>
        if kdx σ a2 = 2 then
        ((R a2 0) : Option Nat).bind fun a4 =>
        if kdx σ a4 = 20 then
        if ¬ (((x1 * (64 : Int32)) + x2) < 0 ∨ lnx σ a4 ≤ Int32.toNatClampNeg ((x1 * (64 : Int32)) + x2)) then
        let I7 := u2 I a4 (Int32.toNatClampNeg ((x1 * (64 : Int32)) + x2)) ((I a4 (Int32.toNatClampNeg ((x1 * (64 : Int32)) + x2))) ^^^ x3)
        some (I7, (I7 a4 (Int32.toNatClampNeg ((x1 * (64 : Int32)) + x2))))
        else none
        else none
        else none
        else none
      else
        some (I, (-2 : Int32))
theorem kX11_damage {G : Gx} {l : Launch} {σ : Shp} {I : Nat → Nat → Int32} {J : Nat → Nat → Int64} {D : Nat → Nat → UInt64} {R : Nat → Nat → Option Nat} {t : Nat} {x1 : Int32} {x2 : Int32} {x3 : Int32} {I9 : Nat → Nat → Int32} {r9 : Int32} (h : fX11_damage σ I R t x1 x2 x3 = some (I9, r9)) : Con G l yX11_damage cX11_damage 4 (some .int) 1 21 [vR (some t), vI x1, vI x2, vI x3] (σ, I, J, D, R) (σ, I9, J, D, R) (some (vI r9)) := by
  unfold fX11_damage at h
  refine Con.mk (by decide +kernel) rfl (Nat.le_of_ble_eq_true rfl) ?_
  show WX11_damage G l σ (σ, I9, J, D, R) (some (vI r9)) (σ, I, J, D, R) 0 _ []
  refine r_iload_n (pc := 0) dX11_damage_0 rfl 1 rfl ?_
  refine r_iload_n (pc := 1) dX11_damage_1 rfl 2 rfl ?_
  refine r_callS1 (pc := 2) (av := [vI x1, vI x2]) (S := []) dX11_damage_2 (kX1_isByte rfl) mkX11_487 mwX1_isByte rfl ⟨Nat.le_of_ble_eq_true rfl, Nat.le_of_ble_eq_true rfl⟩ (Nat.le_of_ble_eq_true rfl) ⟨Nat.le_refl _, Nat.le_refl _⟩ (fun b => b) ?_
  refine r_if_eq (pc := 5) (tgt := 19) dX11_damage_5 rfl (fun c => ?_) (fun c => ?_)
  · have h := it h c
    refine r_bipush (pc := 19) dX11_damage_19 kc_bipush_m2 ?_
    cases h
    exact r_iret dX11_damage_21
  · have h := ie h c
    refine r_iload_n (pc := 8) dX11_damage_8 rfl 3 rfl ?_
    refine r_if_lt (pc := 9) (tgt := 19) dX11_damage_9 rfl (fun c => ?_) (fun c => ?_)
    · have h := it h c
      refine r_bipush (pc := 19) dX11_damage_19 kc_bipush_m2 ?_
      cases h
      exact r_iret dX11_damage_21
    · have h := ie h c
      refine r_iload_n (pc := 12) dX11_damage_12 rfl 3 rfl ?_
      refine r_sipush (pc := 13) dX11_damage_13 kc_sipush_255 ?_
      refine r_icmp_le (pc := 16) (tgt := 22) dX11_damage_16 rfl (fun c => ?_) (fun c => ?_)
      · have h := it h c
        refine r_aload_n (pc := 22) dX11_damage_22 rfl 0 rfl ?_
        obtain ⟨g1, h⟩ := gd h
        obtain ⟨a2, ha2, h⟩ := ob h
        refine r_getS (pc := 23) dX11_damage_23 fgX11_65 rfl g1 ha2 ?_
        obtain ⟨g3, h⟩ := gd h
        obtain ⟨a4, ha4, h⟩ := ob h
        refine r_getS (pc := 26) dX11_damage_26 fgX11_490 rfl g3 ha4 ?_
        refine r_iload_n (pc := 29) dX11_damage_29 rfl 1 rfl ?_
        refine r_bipush (pc := 30) dX11_damage_30 kc_bipush_64 ?_
        refine r_imul (pc := 32) dX11_damage_32 ?_
        refine r_iload_n (pc := 33) dX11_damage_33 rfl 2 rfl ?_
        refine r_iadd (pc := 34) dX11_damage_34 ?_
        refine r_dup2 (pc := 35) dX11_damage_35 rfl rfl ?_
        obtain ⟨g5, h⟩ := gd h
        obtain ⟨g6, h⟩ := gd h
        refine r_iaload (pc := 36) dX11_damage_36 g5 g6 ?_
        refine r_iload_n (pc := 37) dX11_damage_37 rfl 3 rfl ?_
        refine r_ixor (pc := 38) dX11_damage_38 ?_
        refine r_iastore (pc := 39) dX11_damage_39 g5 g6 ?_
        refine r_aload_n (pc := 40) dX11_damage_40 rfl 0 rfl ?_
        refine r_getS (pc := 41) dX11_damage_41 fgX11_65 rfl g1 ha2 ?_
        refine r_getS (pc := 44) dX11_damage_44 fgX11_490 rfl g3 ha4 ?_
        refine r_iload_n (pc := 47) dX11_damage_47 rfl 1 rfl ?_
        refine r_bipush (pc := 48) dX11_damage_48 kc_bipush_64 ?_
        refine r_imul (pc := 50) dX11_damage_50 ?_
        refine r_iload_n (pc := 51) dX11_damage_51 rfl 2 rfl ?_
        refine r_iadd (pc := 52) dX11_damage_52 ?_
        refine r_iaload (pc := 53) dX11_damage_53 g5 g6 ?_
        cases h
        exact r_iret dX11_damage_54
      · have h := ie h c
        refine r_bipush (pc := 19) dX11_damage_19 kc_bipush_m2 ?_
        cases h
        exact r_iret dX11_damage_21
abbrev WX11_told (G : Gx) (l : Launch) (σ0 : Shp) (X1 : Stt) (rv : Option SV) : Stt → Nat → List (Nat × SV) → List SV → Prop := Wm G l yX11_told cX11_told 2 (some .int) (fun _ => True) (rmx 6 142 σ0 X1.1) σ0 (Qmx G σ0 X1 rv)
def fX11_told (σ : Shp) (I : Nat → Nat → Int32) (R : Nat → Nat → Option Nat) (t : Nat) (x1 : Int32) : Option ((Nat → Nat → Int32) × (Int32)) :=
  if x1 = (0 : Int32) then
    if kdx σ t = 12 then
    ((R t 5) : Option Nat).bind fun a46 =>
    if kdx σ a46 = 5 then
    some (I, (I a46 13))
    else none
    else none
  else
  if x1 = (1 : Int32) then
    if kdx σ t = 12 then
    some (I, (I t 12))
    else none
  else
  if x1 = (2 : Int32) then
    if kdx σ t = 12 then
    some (I, (I t 13))
    else none
  else
  if x1 = (3 : Int32) then
    if kdx σ t = 12 then
    ((R t 9) : Option Nat).bind fun a41 =>
    if kdx σ a41 = 2 then
    some (I, (I a41 3))
    else none
    else none
  else
  if x1 = (4 : Int32) then
    if kdx σ t = 12 then
    ((R t 9) : Option Nat).bind fun a38 =>
    if kdx σ a38 = 2 then
    some (I, (I a38 4))
    else none
    else none
  else
  if x1 = (5 : Int32) then
    if kdx σ t = 12 then
    ((R t 9) : Option Nat).bind fun a35 =>
    if kdx σ a35 = 2 then
    if (I a35 5) = 0 then
      some (I, (0 : Int32))
    else
      some (I, (1 : Int32))
    else none
    else none
  else
  if x1 = (6 : Int32) then
    if kdx σ t = 12 then
    ((R t 9) : Option Nat).bind fun a30 =>
    if kdx σ a30 = 2 then
    (fX1_clashes σ I R a30).bind fun r32 =>
    some (I, r32)
    else none
    else none
  else
  if x1 = (7 : Int32) then
    if kdx σ t = 12 then
    ((R t 8) : Option Nat).bind fun a27 =>
    if kdx σ a27 = 6 then
    some (I, (I a27 8))
    else none
    else none
  else
  if x1 = (8 : Int32) then
    if kdx σ t = 12 then
    ((R t 9) : Option Nat).bind fun a21 =>
    if kdx σ a21 = 2 then
    (fX1_gatherRead σ I R a21).bind fun (I23, r24) =>
    some (I23, r24)
    else none
    else none
  else
  if x1 = (9 : Int32) then
    if kdx σ t = 12 then
    ((R t 3) : Option Nat).bind fun a16 =>
    if kdx σ a16 = 7 then
    (fX6_stepsInAll σ I R a16).bind fun r18 =>
    some (I, r18)
    else none
    else none
  else
  if x1 = (10 : Int32) then
    if kdx σ t = 12 then
    ((R t 6) : Option Nat).bind fun a13 =>
    if kdx σ a13 = 10 then
    some (I, (I a13 8))
    else none
    else none
  else
  some (I, (-2 : Int32))
theorem kX11_told {G : Gx} {l : Launch} {σ : Shp} {I : Nat → Nat → Int32} {J : Nat → Nat → Int64} {D : Nat → Nat → UInt64} {R : Nat → Nat → Option Nat} {t : Nat} {x1 : Int32} {I9 : Nat → Nat → Int32} {r9 : Int32} (h : fX11_told σ I R t x1 = some (I9, r9)) : Con G l yX11_told cX11_told 2 (some .int) 6 142 [vR (some t), vI x1] (σ, I, J, D, R) (σ, I9, J, D, R) (some (vI r9)) := by
  unfold fX11_told at h
  refine Con.mk (by decide +kernel) rfl (Nat.le_of_ble_eq_true rfl) ?_
  show WX11_told G l σ (σ, I9, J, D, R) (some (vI r9)) (σ, I, J, D, R) 0 _ []
  refine r_iload_n (pc := 0) dX11_told_0 rfl 1 rfl ?_
  rcases itc h with ⟨c1, h⟩ | ⟨c1, h⟩
  · refine r_tsIn (x := x1) (pc := 1) (tgt := 60) dX11_told_1 (by rw [c1]; decide) (by rw [c1]; decide) (by rw [c1]; rfl) rfl ?_
    refine r_aload_n (pc := 60) dX11_told_60 rfl 0 rfl ?_
    obtain ⟨g45, h⟩ := gd h
    obtain ⟨a46, ha46, h⟩ := ob h
    refine r_getS (pc := 61) dX11_told_61 fgX11_39 rfl g45 ha46 ?_
    obtain ⟨g47, h⟩ := gd h
    refine r_getI (pc := 64) dX11_told_64 fgX11_388 rfl g47 ?_
    cases h
    exact r_iret dX11_told_67
  · rcases itc h with ⟨c2, h⟩ | ⟨c2, h⟩
    · refine r_tsIn (x := x1) (pc := 1) (tgt := 68) dX11_told_1 (by rw [c2]; decide) (by rw [c2]; decide) (by rw [c2]; rfl) rfl ?_
      refine r_aload_n (pc := 68) dX11_told_68 rfl 0 rfl ?_
      obtain ⟨g44, h⟩ := gd h
      refine r_getI (pc := 69) dX11_told_69 fgX11_243 rfl g44 ?_
      cases h
      exact r_iret dX11_told_72
    · rcases itc h with ⟨c3, h⟩ | ⟨c3, h⟩
      · refine r_tsIn (x := x1) (pc := 1) (tgt := 73) dX11_told_1 (by rw [c3]; decide) (by rw [c3]; decide) (by rw [c3]; rfl) rfl ?_
        refine r_aload_n (pc := 73) dX11_told_73 rfl 0 rfl ?_
        obtain ⟨g43, h⟩ := gd h
        refine r_getI (pc := 74) dX11_told_74 fgX11_295 rfl g43 ?_
        cases h
        exact r_iret dX11_told_77
      · rcases itc h with ⟨c4, h⟩ | ⟨c4, h⟩
        · refine r_tsIn (x := x1) (pc := 1) (tgt := 78) dX11_told_1 (by rw [c4]; decide) (by rw [c4]; decide) (by rw [c4]; rfl) rfl ?_
          refine r_aload_n (pc := 78) dX11_told_78 rfl 0 rfl ?_
          obtain ⟨g40, h⟩ := gd h
          obtain ⟨a41, ha41, h⟩ := ob h
          refine r_getS (pc := 79) dX11_told_79 fgX11_65 rfl g40 ha41 ?_
          obtain ⟨g42, h⟩ := gd h
          refine r_getI (pc := 82) dX11_told_82 fgX11_493 rfl g42 ?_
          cases h
          exact r_iret dX11_told_85
        · rcases itc h with ⟨c5, h⟩ | ⟨c5, h⟩
          · refine r_tsIn (x := x1) (pc := 1) (tgt := 86) dX11_told_1 (by rw [c5]; decide) (by rw [c5]; decide) (by rw [c5]; rfl) rfl ?_
            refine r_aload_n (pc := 86) dX11_told_86 rfl 0 rfl ?_
            obtain ⟨g37, h⟩ := gd h
            obtain ⟨a38, ha38, h⟩ := ob h
            refine r_getS (pc := 87) dX11_told_87 fgX11_65 rfl g37 ha38 ?_
            obtain ⟨g39, h⟩ := gd h
            refine r_getI (pc := 90) dX11_told_90 fgX11_496 rfl g39 ?_
            cases h
            exact r_iret dX11_told_93
          · rcases itc h with ⟨c6, h⟩ | ⟨c6, h⟩
            · refine r_tsIn (x := x1) (pc := 1) (tgt := 94) dX11_told_1 (by rw [c6]; decide) (by rw [c6]; decide) (by rw [c6]; rfl) rfl ?_
              refine r_aload_n (pc := 94) dX11_told_94 rfl 0 rfl ?_
              obtain ⟨g34, h⟩ := gd h
              obtain ⟨a35, ha35, h⟩ := ob h
              refine r_getS (pc := 95) dX11_told_95 fgX11_65 rfl g34 ha35 ?_
              obtain ⟨g36, h⟩ := gd h
              refine r_getI (pc := 98) dX11_told_98 fgX11_499 rfl g36 ?_
              refine r_if_eq (pc := 101) (tgt := 108) dX11_told_101 rfl (fun c => ?_) (fun c => ?_)
              · have h := it h c
                refine r_iconst (pc := 108) dX11_told_108 kc_iconst_0 ?_
                cases h
                exact r_iret dX11_told_109
              · have h := ie h c
                refine r_iconst (pc := 104) dX11_told_104 kc_iconst_1 ?_
                refine r_goto (pc := 105) (tgt := 109) dX11_told_105 rfl ?_
                cases h
                exact r_iret dX11_told_109
            · rcases itc h with ⟨c7, h⟩ | ⟨c7, h⟩
              · refine r_tsIn (x := x1) (pc := 1) (tgt := 110) dX11_told_1 (by rw [c7]; decide) (by rw [c7]; decide) (by rw [c7]; rfl) rfl ?_
                refine r_aload_n (pc := 110) dX11_told_110 rfl 0 rfl ?_
                obtain ⟨g29, h⟩ := gd h
                obtain ⟨a30, ha30, h⟩ := ob h
                refine r_getS (pc := 111) dX11_told_111 fgX11_65 rfl g29 ha30 ?_
                obtain ⟨g31, h⟩ := gd h
                obtain ⟨r32, hc33, h⟩ := ob h
                refine r_callV1 (pc := 114) (av := []) (S := []) dX11_told_114 (kX1_clashes hc33) g31 rfl mkX11_503 mwX1_clashes rfl ⟨Nat.le_of_ble_eq_true rfl, Nat.le_of_ble_eq_true rfl⟩ (Nat.le_of_ble_eq_true rfl) ⟨Nat.le_refl _, Nat.le_refl _⟩ (fun b => b) ?_
                cases h
                exact r_iret dX11_told_117
              · rcases itc h with ⟨c8, h⟩ | ⟨c8, h⟩
                · refine r_tsIn (x := x1) (pc := 1) (tgt := 118) dX11_told_1 (by rw [c8]; decide) (by rw [c8]; decide) (by rw [c8]; rfl) rfl ?_
                  refine r_aload_n (pc := 118) dX11_told_118 rfl 0 rfl ?_
                  obtain ⟨g26, h⟩ := gd h
                  obtain ⟨a27, ha27, h⟩ := ob h
                  refine r_getS (pc := 119) dX11_told_119 fgX11_58 rfl g26 ha27 ?_
                  obtain ⟨g28, h⟩ := gd h
                  refine r_getI (pc := 122) dX11_told_122 fgX11_458 rfl g28 ?_
                  cases h
                  exact r_iret dX11_told_125
                · rcases itc h with ⟨c9, h⟩ | ⟨c9, h⟩
                  · refine r_tsIn (x := x1) (pc := 1) (tgt := 126) dX11_told_1 (by rw [c9]; decide) (by rw [c9]; decide) (by rw [c9]; rfl) rfl ?_
                    refine r_aload_n (pc := 126) dX11_told_126 rfl 0 rfl ?_
                    obtain ⟨g20, h⟩ := gd h
                    obtain ⟨a21, ha21, h⟩ := ob h
                    refine r_getS (pc := 127) dX11_told_127 fgX11_65 rfl g20 ha21 ?_
                    obtain ⟨g22, h⟩ := gd h
                    obtain ⟨⟨I23, r24⟩, hc25, h⟩ := ob h
                    refine r_callV1 (pc := 130) (av := []) (S := []) dX11_told_130 (kX1_gatherRead hc25) g22 rfl mkX11_506 mwX1_gatherRead rfl ⟨Nat.le_of_ble_eq_true rfl, Nat.le_of_ble_eq_true rfl⟩ (Nat.le_of_ble_eq_true rfl) ⟨Nat.le_refl _, Nat.le_refl _⟩ (fun b => b) ?_
                    cases h
                    exact r_iret dX11_told_133
                  · rcases itc h with ⟨c10, h⟩ | ⟨c10, h⟩
                    · refine r_tsIn (x := x1) (pc := 1) (tgt := 134) dX11_told_1 (by rw [c10]; decide) (by rw [c10]; decide) (by rw [c10]; rfl) rfl ?_
                      refine r_aload_n (pc := 134) dX11_told_134 rfl 0 rfl ?_
                      obtain ⟨g15, h⟩ := gd h
                      obtain ⟨a16, ha16, h⟩ := ob h
                      refine r_getS (pc := 135) dX11_told_135 fgX11_30 rfl g15 ha16 ?_
                      obtain ⟨g17, h⟩ := gd h
                      obtain ⟨r18, hc19, h⟩ := ob h
                      refine r_callV1 (pc := 138) (av := []) (S := []) dX11_told_138 (kX6_stepsInAll hc19) g17 rfl mkX11_509 mwX6_stepsInAll rfl ⟨Nat.le_of_ble_eq_true rfl, Nat.le_of_ble_eq_true rfl⟩ (Nat.le_of_ble_eq_true rfl) ⟨Nat.le_refl _, Nat.le_refl _⟩ (fun b => b) ?_
                      cases h
                      exact r_iret dX11_told_141
                    · rcases itc h with ⟨c11, h⟩ | ⟨c11, h⟩
                      · refine r_tsIn (x := x1) (pc := 1) (tgt := 142) dX11_told_1 (by rw [c11]; decide) (by rw [c11]; decide) (by rw [c11]; rfl) rfl ?_
                        refine r_aload_n (pc := 142) dX11_told_142 rfl 0 rfl ?_
                        obtain ⟨g12, h⟩ := gd h
                        obtain ⟨a13, ha13, h⟩ := ob h
                        refine r_getS (pc := 143) dX11_told_143 fgX11_47 rfl g12 ha13 ?_
                        obtain ⟨g14, h⟩ := gd h
                        refine r_getI (pc := 146) dX11_told_146 fgX11_512 rfl g14 ?_
                        cases h
                        exact r_iret dX11_told_149
                      · refine r_tsOut (x := x1) (pc := 1) (tgt := 150) dX11_told_1 (by have ec1 := i32n c1 (k := 0) rfl; have ec2 := i32n c2 (k := 1) rfl; have ec3 := i32n c3 (k := 2) rfl; have ec4 := i32n c4 (k := 3) rfl; have ec5 := i32n c5 (k := 4) rfl; have ec6 := i32n c6 (k := 5) rfl; have ec7 := i32n c7 (k := 6) rfl; have ec8 := i32n c8 (k := 7) rfl; have ec9 := i32n c9 (k := 8) rfl; have ec10 := i32n c10 (k := 9) rfl; have ec11 := i32n c11 (k := 10) rfl; omega) rfl ?_
                        refine r_bipush (pc := 150) dX11_told_150 kc_bipush_m2 ?_
                        cases h
                        exact r_iret dX11_told_152
abbrev WX11_fault (G : Gx) (l : Launch) (σ0 : Shp) (X1 : Stt) (rv : Option SV) : Stt → Nat → List (Nat × SV) → List SV → Prop := Wm G l yX11_fault cX11_fault 1 (some .int) (fun _ => True) (rmx 0 0 σ0 X1.1) σ0 (Qmx G σ0 X1 rv)
def fX11_fault (σ : Shp) (I : Nat → Nat → Int32) (t : Nat)  : Option ((Int32)) :=
  if kdx σ t = 12 then
  some (I t 14)
  else none
theorem kX11_fault {G : Gx} {l : Launch} {σ : Shp} {I : Nat → Nat → Int32} {J : Nat → Nat → Int64} {D : Nat → Nat → UInt64} {R : Nat → Nat → Option Nat} {t : Nat}  {r9 : Int32} (h : fX11_fault σ I t = some r9) : Con G l yX11_fault cX11_fault 1 (some .int) 0 0 [vR (some t)] (σ, I, J, D, R) (σ, I, J, D, R) (some (vI r9)) := by
  unfold fX11_fault at h
  refine Con.mk (by decide +kernel) rfl (Nat.le_of_ble_eq_true rfl) ?_
  show WX11_fault G l σ (σ, I, J, D, R) (some (vI r9)) (σ, I, J, D, R) 0 _ []
  refine r_aload_n (pc := 0) dX11_fault_0 rfl 0 rfl ?_
  obtain ⟨g1, h⟩ := gd h
  refine r_getI (pc := 1) dX11_fault_1 fgX11_304 rfl g1 ?_
  cases h
  exact r_iret dX11_fault_4
abbrev WX12_init (G : Gx) (l : Launch) (σ0 : Shp) (X1 : Stt) (rv : Option SV) : Stt → Nat → List (Nat × SV) → List SV → Prop := Wm G l yX12_init cX12_init 1 none (fun _ => True) (rmx 1 20 σ0 X1.1) σ0 (Qmx G σ0 X1 rv)
def fX12_init_b864  (t : Nat) (σ : Shp) (I : Nat → Nat → Int32) (J : Nat → Nat → Int64) (D : Nat → Nat → UInt64) (R : Nat → Nat → Option Nat) (s0 : Nat) (s1 : Nat) : Option ((Shp) × (Nat → Nat → Int32) × (Nat → Nat → Int64) × (Nat → Nat → UInt64) × (Nat → Nat → Option Nat)) :=
  if kdx σ s0 = 13 then
  let R323 := u2 R s0 128 (some s1)
  if kdx σ t = 13 then
  let I325 := u2 I t 132 (-1 : Int32)
  some (σ, I325, J, D, R323)
  else none
  else none
theorem mX12_init_b864 {σ : Shp} {I : Nat → Nat → Int32} {J : Nat → Nat → Int64} {D : Nat → Nat → UInt64} {R : Nat → Nat → Option Nat} {t : Nat} {σ9 : Shp} {I9 : Nat → Nat → Int32} {J9 : Nat → Nat → Int64} {D9 : Nat → Nat → UInt64} {R9 : Nat → Nat → Option Nat} {s0 : Nat} {s1 : Nat} (h : fX12_init_b864 t σ I J D R s0 s1 = some (σ9, I9, J9, D9, R9)) : Lex σ σ9 := by
  unfold fX12_init_b864 at h
  replace h := (gd h).2
  replace h := (gd h).2
  cases h
  exact ⟨Nat.le_refl _, Nat.le_refl _⟩
theorem wX12_init_b864 {G : Gx} {l : Launch} {σ0 : Shp} {σ : Shp} {I : Nat → Nat → Int32} {J : Nat → Nat → Int64} {D : Nat → Nat → UInt64} {R : Nat → Nat → Option Nat} {t : Nat} {σ9 : Shp} {I9 : Nat → Nat → Int32} {J9 : Nat → Nat → Int64} {D9 : Nat → Nat → UInt64} {R9 : Nat → Nat → Option Nat} {s0 : Nat} {s1 : Nat} (h : fX12_init_b864 t σ I J D R s0 s1 = some (σ9, I9, J9, D9, R9)) : WX12_init G l σ0 (σ9, I9, J9, D9, R9) none (σ, I, J, D, R) 864 [(0, vR (some t))] [vR (some s1), vR (some s0)] := by
  unfold fX12_init_b864 at h
  obtain ⟨g322, h⟩ := gd h
  refine r_putRF (pc := 864) dX12_init_864 fwX12_293 rfl rfl g322 ?_
  refine r_aload_n (pc := 867) dX12_init_867 rfl 0 rfl ?_
  refine r_iconst (pc := 868) dX12_init_868 kc_iconst_m1 ?_
  obtain ⟨g324, h⟩ := gd h
  refine r_putI (pc := 869) dX12_init_869 fwX12_296 rfl g324 ?_
  cases h
  exact r_vret dX12_init_872
def fX12_init_b856  (t : Nat) (σ : Shp) (I : Nat → Nat → Int32) (J : Nat → Nat → Int64) (D : Nat → Nat → UInt64) (R : Nat → Nat → Option Nat) (s0 : Nat) (s1 : Nat) : Option ((Shp) × (Nat → Nat → Int32) × (Nat → Nat → Int64) × (Nat → Nat → UInt64) × (Nat → Nat → Option Nat)) :=
  if kdx σ s0 = 13 then
  let R320 := u2 R s0 127 (some s1)
  let σ321 := mkA σ 20 (Int32.toNatClampNeg (64 : Int32))
  fX12_init_b864 t σ321 I J D R320 t (nxx σ + 4)
  else none
theorem mX12_init_b856 {σ : Shp} {I : Nat → Nat → Int32} {J : Nat → Nat → Int64} {D : Nat → Nat → UInt64} {R : Nat → Nat → Option Nat} {t : Nat} {σ9 : Shp} {I9 : Nat → Nat → Int32} {J9 : Nat → Nat → Int64} {D9 : Nat → Nat → UInt64} {R9 : Nat → Nat → Option Nat} {s0 : Nat} {s1 : Nat} (h : fX12_init_b856 t σ I J D R s0 s1 = some (σ9, I9, J9, D9, R9)) : Lex σ σ9 := by
  unfold fX12_init_b856 at h
  replace h := (gd h).2
  exact Lex_mkA (mX12_init_b864 h)
theorem wX12_init_b856 {G : Gx} {l : Launch} {σ0 : Shp} {σ : Shp} {I : Nat → Nat → Int32} {J : Nat → Nat → Int64} {D : Nat → Nat → UInt64} {R : Nat → Nat → Option Nat} {t : Nat} {σ9 : Shp} {I9 : Nat → Nat → Int32} {J9 : Nat → Nat → Int64} {D9 : Nat → Nat → UInt64} {R9 : Nat → Nat → Option Nat} {s0 : Nat} {s1 : Nat} (h : fX12_init_b856 t σ I J D R s0 s1 = some (σ9, I9, J9, D9, R9)) : WX12_init G l σ0 (σ9, I9, J9, D9, R9) none (σ, I, J, D, R) 856 [(0, vR (some t))] [vR (some s1), vR (some s0)] := by
  unfold fX12_init_b856 at h
  obtain ⟨g319, h⟩ := gd h
  refine r_putRF (pc := 856) dX12_init_856 fwX12_290 rfl rfl g319 ?_
  refine r_aload_n (pc := 859) dX12_init_859 rfl 0 rfl ?_
  refine r_bipush (pc := 860) dX12_init_860 kc_bipush_64 ?_
  refine r_newa (pc := 862) (t := 20) (ti := 0) (ty := .int) dX12_init_862 rfl (by decide) ac20 (by decide) (by decide) (Nat.sub_le_sub_right (mX12_init_b864 h).1 _) (Nat.sub_le_sub_right (mX12_init_b864 h).2 _) ?_
  refine r_sub [0] rfl ?_
  exact wX12_init_b864 h
def fX12_init_b847  (t : Nat) (σ : Shp) (I : Nat → Nat → Int32) (J : Nat → Nat → Int64) (D : Nat → Nat → UInt64) (R : Nat → Nat → Option Nat) (s0 : Nat) (s1 : Nat) : Option ((Shp) × (Nat → Nat → Int32) × (Nat → Nat → Int64) × (Nat → Nat → UInt64) × (Nat → Nat → Option Nat)) :=
  if kdx σ s0 = 13 then
  let R317 := u2 R s0 124 (some s1)
  let σ318 := mkA σ 20 (Int32.toNatClampNeg (1280 : Int32))
  fX12_init_b856 t σ318 I J D R317 t (nxx σ + 4)
  else none
theorem mX12_init_b847 {σ : Shp} {I : Nat → Nat → Int32} {J : Nat → Nat → Int64} {D : Nat → Nat → UInt64} {R : Nat → Nat → Option Nat} {t : Nat} {σ9 : Shp} {I9 : Nat → Nat → Int32} {J9 : Nat → Nat → Int64} {D9 : Nat → Nat → UInt64} {R9 : Nat → Nat → Option Nat} {s0 : Nat} {s1 : Nat} (h : fX12_init_b847 t σ I J D R s0 s1 = some (σ9, I9, J9, D9, R9)) : Lex σ σ9 := by
  unfold fX12_init_b847 at h
  replace h := (gd h).2
  exact Lex_mkA (mX12_init_b856 h)
theorem wX12_init_b847 {G : Gx} {l : Launch} {σ0 : Shp} {σ : Shp} {I : Nat → Nat → Int32} {J : Nat → Nat → Int64} {D : Nat → Nat → UInt64} {R : Nat → Nat → Option Nat} {t : Nat} {σ9 : Shp} {I9 : Nat → Nat → Int32} {J9 : Nat → Nat → Int64} {D9 : Nat → Nat → UInt64} {R9 : Nat → Nat → Option Nat} {s0 : Nat} {s1 : Nat} (h : fX12_init_b847 t σ I J D R s0 s1 = some (σ9, I9, J9, D9, R9)) : WX12_init G l σ0 (σ9, I9, J9, D9, R9) none (σ, I, J, D, R) 847 [(0, vR (some t))] [vR (some s1), vR (some s0)] := by
  unfold fX12_init_b847 at h
  obtain ⟨g316, h⟩ := gd h
  refine r_putRF (pc := 847) dX12_init_847 fwX12_287 rfl rfl g316 ?_
  refine r_aload_n (pc := 850) dX12_init_850 rfl 0 rfl ?_
  refine r_sipush (pc := 851) dX12_init_851 kc_sipush_1280 ?_
  refine r_newa (pc := 854) (t := 20) (ti := 0) (ty := .int) dX12_init_854 rfl (by decide) ac20 (by decide) (by decide) (Nat.sub_le_sub_right (mX12_init_b856 h).1 _) (Nat.sub_le_sub_right (mX12_init_b856 h).2 _) ?_
  refine r_sub [0] rfl ?_
  exact wX12_init_b856 h
def fX12_init_b839  (t : Nat) (σ : Shp) (I : Nat → Nat → Int32) (J : Nat → Nat → Int64) (D : Nat → Nat → UInt64) (R : Nat → Nat → Option Nat) (s0 : Nat) (s1 : Nat) : Option ((Shp) × (Nat → Nat → Int32) × (Nat → Nat → Int64) × (Nat → Nat → UInt64) × (Nat → Nat → Option Nat)) :=
  if kdx σ s0 = 13 then
  let R314 := u2 R s0 123 (some s1)
  let σ315 := mkA σ 21 (Int32.toNatClampNeg (8 : Int32))
  fX12_init_b847 t σ315 I J D R314 t (nxx σ + 4)
  else none
theorem mX12_init_b839 {σ : Shp} {I : Nat → Nat → Int32} {J : Nat → Nat → Int64} {D : Nat → Nat → UInt64} {R : Nat → Nat → Option Nat} {t : Nat} {σ9 : Shp} {I9 : Nat → Nat → Int32} {J9 : Nat → Nat → Int64} {D9 : Nat → Nat → UInt64} {R9 : Nat → Nat → Option Nat} {s0 : Nat} {s1 : Nat} (h : fX12_init_b839 t σ I J D R s0 s1 = some (σ9, I9, J9, D9, R9)) : Lex σ σ9 := by
  unfold fX12_init_b839 at h
  replace h := (gd h).2
  exact Lex_mkA (mX12_init_b847 h)
theorem wX12_init_b839 {G : Gx} {l : Launch} {σ0 : Shp} {σ : Shp} {I : Nat → Nat → Int32} {J : Nat → Nat → Int64} {D : Nat → Nat → UInt64} {R : Nat → Nat → Option Nat} {t : Nat} {σ9 : Shp} {I9 : Nat → Nat → Int32} {J9 : Nat → Nat → Int64} {D9 : Nat → Nat → UInt64} {R9 : Nat → Nat → Option Nat} {s0 : Nat} {s1 : Nat} (h : fX12_init_b839 t σ I J D R s0 s1 = some (σ9, I9, J9, D9, R9)) : WX12_init G l σ0 (σ9, I9, J9, D9, R9) none (σ, I, J, D, R) 839 [(0, vR (some t))] [vR (some s1), vR (some s0)] := by
  unfold fX12_init_b839 at h
  obtain ⟨g313, h⟩ := gd h
  refine r_putRF (pc := 839) dX12_init_839 fwX12_284 rfl rfl g313 ?_
  refine r_aload_n (pc := 842) dX12_init_842 rfl 0 rfl ?_
  refine r_bipush (pc := 843) dX12_init_843 kc_bipush_8 ?_
  refine r_newa (pc := 845) (t := 21) (ti := 1) (ty := .long) dX12_init_845 rfl (by decide) ac21 (by decide) (by decide) (Nat.sub_le_sub_right (mX12_init_b847 h).1 _) (Nat.sub_le_sub_right (mX12_init_b847 h).2 _) ?_
  refine r_sub [0] rfl ?_
  exact wX12_init_b847 h
def fX12_init_b831  (t : Nat) (σ : Shp) (I : Nat → Nat → Int32) (J : Nat → Nat → Int64) (D : Nat → Nat → UInt64) (R : Nat → Nat → Option Nat) (s0 : Nat) (s1 : Nat) : Option ((Shp) × (Nat → Nat → Int32) × (Nat → Nat → Int64) × (Nat → Nat → UInt64) × (Nat → Nat → Option Nat)) :=
  if kdx σ s0 = 13 then
  let R311 := u2 R s0 122 (some s1)
  let σ312 := mkA σ 20 (Int32.toNatClampNeg (8 : Int32))
  fX12_init_b839 t σ312 I J D R311 t (nxx σ + 4)
  else none
theorem mX12_init_b831 {σ : Shp} {I : Nat → Nat → Int32} {J : Nat → Nat → Int64} {D : Nat → Nat → UInt64} {R : Nat → Nat → Option Nat} {t : Nat} {σ9 : Shp} {I9 : Nat → Nat → Int32} {J9 : Nat → Nat → Int64} {D9 : Nat → Nat → UInt64} {R9 : Nat → Nat → Option Nat} {s0 : Nat} {s1 : Nat} (h : fX12_init_b831 t σ I J D R s0 s1 = some (σ9, I9, J9, D9, R9)) : Lex σ σ9 := by
  unfold fX12_init_b831 at h
  replace h := (gd h).2
  exact Lex_mkA (mX12_init_b839 h)
theorem wX12_init_b831 {G : Gx} {l : Launch} {σ0 : Shp} {σ : Shp} {I : Nat → Nat → Int32} {J : Nat → Nat → Int64} {D : Nat → Nat → UInt64} {R : Nat → Nat → Option Nat} {t : Nat} {σ9 : Shp} {I9 : Nat → Nat → Int32} {J9 : Nat → Nat → Int64} {D9 : Nat → Nat → UInt64} {R9 : Nat → Nat → Option Nat} {s0 : Nat} {s1 : Nat} (h : fX12_init_b831 t σ I J D R s0 s1 = some (σ9, I9, J9, D9, R9)) : WX12_init G l σ0 (σ9, I9, J9, D9, R9) none (σ, I, J, D, R) 831 [(0, vR (some t))] [vR (some s1), vR (some s0)] := by
  unfold fX12_init_b831 at h
  obtain ⟨g310, h⟩ := gd h
  refine r_putRF (pc := 831) dX12_init_831 fwX12_281 rfl rfl g310 ?_
  refine r_aload_n (pc := 834) dX12_init_834 rfl 0 rfl ?_
  refine r_bipush (pc := 835) dX12_init_835 kc_bipush_8 ?_
  refine r_newa (pc := 837) (t := 20) (ti := 0) (ty := .int) dX12_init_837 rfl (by decide) ac20 (by decide) (by decide) (Nat.sub_le_sub_right (mX12_init_b839 h).1 _) (Nat.sub_le_sub_right (mX12_init_b839 h).2 _) ?_
  refine r_sub [0] rfl ?_
  exact wX12_init_b839 h
def fX12_init_b823  (t : Nat) (σ : Shp) (I : Nat → Nat → Int32) (J : Nat → Nat → Int64) (D : Nat → Nat → UInt64) (R : Nat → Nat → Option Nat) (s0 : Nat) (s1 : Nat) : Option ((Shp) × (Nat → Nat → Int32) × (Nat → Nat → Int64) × (Nat → Nat → UInt64) × (Nat → Nat → Option Nat)) :=
  if kdx σ s0 = 13 then
  let R308 := u2 R s0 121 (some s1)
  let σ309 := mkA σ 20 (Int32.toNatClampNeg (8 : Int32))
  fX12_init_b831 t σ309 I J D R308 t (nxx σ + 4)
  else none
theorem mX12_init_b823 {σ : Shp} {I : Nat → Nat → Int32} {J : Nat → Nat → Int64} {D : Nat → Nat → UInt64} {R : Nat → Nat → Option Nat} {t : Nat} {σ9 : Shp} {I9 : Nat → Nat → Int32} {J9 : Nat → Nat → Int64} {D9 : Nat → Nat → UInt64} {R9 : Nat → Nat → Option Nat} {s0 : Nat} {s1 : Nat} (h : fX12_init_b823 t σ I J D R s0 s1 = some (σ9, I9, J9, D9, R9)) : Lex σ σ9 := by
  unfold fX12_init_b823 at h
  replace h := (gd h).2
  exact Lex_mkA (mX12_init_b831 h)
theorem wX12_init_b823 {G : Gx} {l : Launch} {σ0 : Shp} {σ : Shp} {I : Nat → Nat → Int32} {J : Nat → Nat → Int64} {D : Nat → Nat → UInt64} {R : Nat → Nat → Option Nat} {t : Nat} {σ9 : Shp} {I9 : Nat → Nat → Int32} {J9 : Nat → Nat → Int64} {D9 : Nat → Nat → UInt64} {R9 : Nat → Nat → Option Nat} {s0 : Nat} {s1 : Nat} (h : fX12_init_b823 t σ I J D R s0 s1 = some (σ9, I9, J9, D9, R9)) : WX12_init G l σ0 (σ9, I9, J9, D9, R9) none (σ, I, J, D, R) 823 [(0, vR (some t))] [vR (some s1), vR (some s0)] := by
  unfold fX12_init_b823 at h
  obtain ⟨g307, h⟩ := gd h
  refine r_putRF (pc := 823) dX12_init_823 fwX12_278 rfl rfl g307 ?_
  refine r_aload_n (pc := 826) dX12_init_826 rfl 0 rfl ?_
  refine r_bipush (pc := 827) dX12_init_827 kc_bipush_8 ?_
  refine r_newa (pc := 829) (t := 20) (ti := 0) (ty := .int) dX12_init_829 rfl (by decide) ac20 (by decide) (by decide) (Nat.sub_le_sub_right (mX12_init_b831 h).1 _) (Nat.sub_le_sub_right (mX12_init_b831 h).2 _) ?_
  refine r_sub [0] rfl ?_
  exact wX12_init_b831 h
def fX12_init_b815  (t : Nat) (σ : Shp) (I : Nat → Nat → Int32) (J : Nat → Nat → Int64) (D : Nat → Nat → UInt64) (R : Nat → Nat → Option Nat) (s0 : Nat) (s1 : Nat) : Option ((Shp) × (Nat → Nat → Int32) × (Nat → Nat → Int64) × (Nat → Nat → UInt64) × (Nat → Nat → Option Nat)) :=
  if kdx σ s0 = 13 then
  let R305 := u2 R s0 120 (some s1)
  let σ306 := mkA σ 20 (Int32.toNatClampNeg (8 : Int32))
  fX12_init_b823 t σ306 I J D R305 t (nxx σ + 4)
  else none
theorem mX12_init_b815 {σ : Shp} {I : Nat → Nat → Int32} {J : Nat → Nat → Int64} {D : Nat → Nat → UInt64} {R : Nat → Nat → Option Nat} {t : Nat} {σ9 : Shp} {I9 : Nat → Nat → Int32} {J9 : Nat → Nat → Int64} {D9 : Nat → Nat → UInt64} {R9 : Nat → Nat → Option Nat} {s0 : Nat} {s1 : Nat} (h : fX12_init_b815 t σ I J D R s0 s1 = some (σ9, I9, J9, D9, R9)) : Lex σ σ9 := by
  unfold fX12_init_b815 at h
  replace h := (gd h).2
  exact Lex_mkA (mX12_init_b823 h)
theorem wX12_init_b815 {G : Gx} {l : Launch} {σ0 : Shp} {σ : Shp} {I : Nat → Nat → Int32} {J : Nat → Nat → Int64} {D : Nat → Nat → UInt64} {R : Nat → Nat → Option Nat} {t : Nat} {σ9 : Shp} {I9 : Nat → Nat → Int32} {J9 : Nat → Nat → Int64} {D9 : Nat → Nat → UInt64} {R9 : Nat → Nat → Option Nat} {s0 : Nat} {s1 : Nat} (h : fX12_init_b815 t σ I J D R s0 s1 = some (σ9, I9, J9, D9, R9)) : WX12_init G l σ0 (σ9, I9, J9, D9, R9) none (σ, I, J, D, R) 815 [(0, vR (some t))] [vR (some s1), vR (some s0)] := by
  unfold fX12_init_b815 at h
  obtain ⟨g304, h⟩ := gd h
  refine r_putRF (pc := 815) dX12_init_815 fwX12_275 rfl rfl g304 ?_
  refine r_aload_n (pc := 818) dX12_init_818 rfl 0 rfl ?_
  refine r_bipush (pc := 819) dX12_init_819 kc_bipush_8 ?_
  refine r_newa (pc := 821) (t := 20) (ti := 0) (ty := .int) dX12_init_821 rfl (by decide) ac20 (by decide) (by decide) (Nat.sub_le_sub_right (mX12_init_b823 h).1 _) (Nat.sub_le_sub_right (mX12_init_b823 h).2 _) ?_
  refine r_sub [0] rfl ?_
  exact wX12_init_b823 h
def fX12_init_b807  (t : Nat) (σ : Shp) (I : Nat → Nat → Int32) (J : Nat → Nat → Int64) (D : Nat → Nat → UInt64) (R : Nat → Nat → Option Nat) (s0 : Nat) (s1 : Nat) : Option ((Shp) × (Nat → Nat → Int32) × (Nat → Nat → Int64) × (Nat → Nat → UInt64) × (Nat → Nat → Option Nat)) :=
  if kdx σ s0 = 13 then
  let R302 := u2 R s0 119 (some s1)
  let σ303 := mkA σ 21 (Int32.toNatClampNeg (8 : Int32))
  fX12_init_b815 t σ303 I J D R302 t (nxx σ + 4)
  else none
theorem mX12_init_b807 {σ : Shp} {I : Nat → Nat → Int32} {J : Nat → Nat → Int64} {D : Nat → Nat → UInt64} {R : Nat → Nat → Option Nat} {t : Nat} {σ9 : Shp} {I9 : Nat → Nat → Int32} {J9 : Nat → Nat → Int64} {D9 : Nat → Nat → UInt64} {R9 : Nat → Nat → Option Nat} {s0 : Nat} {s1 : Nat} (h : fX12_init_b807 t σ I J D R s0 s1 = some (σ9, I9, J9, D9, R9)) : Lex σ σ9 := by
  unfold fX12_init_b807 at h
  replace h := (gd h).2
  exact Lex_mkA (mX12_init_b815 h)
theorem wX12_init_b807 {G : Gx} {l : Launch} {σ0 : Shp} {σ : Shp} {I : Nat → Nat → Int32} {J : Nat → Nat → Int64} {D : Nat → Nat → UInt64} {R : Nat → Nat → Option Nat} {t : Nat} {σ9 : Shp} {I9 : Nat → Nat → Int32} {J9 : Nat → Nat → Int64} {D9 : Nat → Nat → UInt64} {R9 : Nat → Nat → Option Nat} {s0 : Nat} {s1 : Nat} (h : fX12_init_b807 t σ I J D R s0 s1 = some (σ9, I9, J9, D9, R9)) : WX12_init G l σ0 (σ9, I9, J9, D9, R9) none (σ, I, J, D, R) 807 [(0, vR (some t))] [vR (some s1), vR (some s0)] := by
  unfold fX12_init_b807 at h
  obtain ⟨g301, h⟩ := gd h
  refine r_putRF (pc := 807) dX12_init_807 fwX12_272 rfl rfl g301 ?_
  refine r_aload_n (pc := 810) dX12_init_810 rfl 0 rfl ?_
  refine r_bipush (pc := 811) dX12_init_811 kc_bipush_8 ?_
  refine r_newa (pc := 813) (t := 21) (ti := 1) (ty := .long) dX12_init_813 rfl (by decide) ac21 (by decide) (by decide) (Nat.sub_le_sub_right (mX12_init_b815 h).1 _) (Nat.sub_le_sub_right (mX12_init_b815 h).2 _) ?_
  refine r_sub [0] rfl ?_
  exact wX12_init_b815 h
def fX12_init_b800  (t : Nat) (σ : Shp) (I : Nat → Nat → Int32) (J : Nat → Nat → Int64) (D : Nat → Nat → UInt64) (R : Nat → Nat → Option Nat) (s0 : Nat) (s1 : Nat) : Option ((Shp) × (Nat → Nat → Int32) × (Nat → Nat → Int64) × (Nat → Nat → UInt64) × (Nat → Nat → Option Nat)) :=
  if kdx σ s0 = 13 then
  let R299 := u2 R s0 118 (some s1)
  let σ300 := mkA σ 21 (Int32.toNatClampNeg (3 : Int32))
  fX12_init_b807 t σ300 I J D R299 t (nxx σ + 4)
  else none
theorem mX12_init_b800 {σ : Shp} {I : Nat → Nat → Int32} {J : Nat → Nat → Int64} {D : Nat → Nat → UInt64} {R : Nat → Nat → Option Nat} {t : Nat} {σ9 : Shp} {I9 : Nat → Nat → Int32} {J9 : Nat → Nat → Int64} {D9 : Nat → Nat → UInt64} {R9 : Nat → Nat → Option Nat} {s0 : Nat} {s1 : Nat} (h : fX12_init_b800 t σ I J D R s0 s1 = some (σ9, I9, J9, D9, R9)) : Lex σ σ9 := by
  unfold fX12_init_b800 at h
  replace h := (gd h).2
  exact Lex_mkA (mX12_init_b807 h)
theorem wX12_init_b800 {G : Gx} {l : Launch} {σ0 : Shp} {σ : Shp} {I : Nat → Nat → Int32} {J : Nat → Nat → Int64} {D : Nat → Nat → UInt64} {R : Nat → Nat → Option Nat} {t : Nat} {σ9 : Shp} {I9 : Nat → Nat → Int32} {J9 : Nat → Nat → Int64} {D9 : Nat → Nat → UInt64} {R9 : Nat → Nat → Option Nat} {s0 : Nat} {s1 : Nat} (h : fX12_init_b800 t σ I J D R s0 s1 = some (σ9, I9, J9, D9, R9)) : WX12_init G l σ0 (σ9, I9, J9, D9, R9) none (σ, I, J, D, R) 800 [(0, vR (some t))] [vR (some s1), vR (some s0)] := by
  unfold fX12_init_b800 at h
  obtain ⟨g298, h⟩ := gd h
  refine r_putRF (pc := 800) dX12_init_800 fwX12_269 rfl rfl g298 ?_
  refine r_aload_n (pc := 803) dX12_init_803 rfl 0 rfl ?_
  refine r_iconst (pc := 804) dX12_init_804 kc_iconst_3 ?_
  refine r_newa (pc := 805) (t := 21) (ti := 1) (ty := .long) dX12_init_805 rfl (by decide) ac21 (by decide) (by decide) (Nat.sub_le_sub_right (mX12_init_b807 h).1 _) (Nat.sub_le_sub_right (mX12_init_b807 h).2 _) ?_
  refine r_sub [0] rfl ?_
  exact wX12_init_b807 h
def fX12_init_b793  (t : Nat) (σ : Shp) (I : Nat → Nat → Int32) (J : Nat → Nat → Int64) (D : Nat → Nat → UInt64) (R : Nat → Nat → Option Nat) (s0 : Nat) (s1 : Nat) : Option ((Shp) × (Nat → Nat → Int32) × (Nat → Nat → Int64) × (Nat → Nat → UInt64) × (Nat → Nat → Option Nat)) :=
  if kdx σ s0 = 13 then
  let R296 := u2 R s0 117 (some s1)
  let σ297 := mkA σ 21 (Int32.toNatClampNeg (4 : Int32))
  fX12_init_b800 t σ297 I J D R296 t (nxx σ + 4)
  else none
theorem mX12_init_b793 {σ : Shp} {I : Nat → Nat → Int32} {J : Nat → Nat → Int64} {D : Nat → Nat → UInt64} {R : Nat → Nat → Option Nat} {t : Nat} {σ9 : Shp} {I9 : Nat → Nat → Int32} {J9 : Nat → Nat → Int64} {D9 : Nat → Nat → UInt64} {R9 : Nat → Nat → Option Nat} {s0 : Nat} {s1 : Nat} (h : fX12_init_b793 t σ I J D R s0 s1 = some (σ9, I9, J9, D9, R9)) : Lex σ σ9 := by
  unfold fX12_init_b793 at h
  replace h := (gd h).2
  exact Lex_mkA (mX12_init_b800 h)
theorem wX12_init_b793 {G : Gx} {l : Launch} {σ0 : Shp} {σ : Shp} {I : Nat → Nat → Int32} {J : Nat → Nat → Int64} {D : Nat → Nat → UInt64} {R : Nat → Nat → Option Nat} {t : Nat} {σ9 : Shp} {I9 : Nat → Nat → Int32} {J9 : Nat → Nat → Int64} {D9 : Nat → Nat → UInt64} {R9 : Nat → Nat → Option Nat} {s0 : Nat} {s1 : Nat} (h : fX12_init_b793 t σ I J D R s0 s1 = some (σ9, I9, J9, D9, R9)) : WX12_init G l σ0 (σ9, I9, J9, D9, R9) none (σ, I, J, D, R) 793 [(0, vR (some t))] [vR (some s1), vR (some s0)] := by
  unfold fX12_init_b793 at h
  obtain ⟨g295, h⟩ := gd h
  refine r_putRF (pc := 793) dX12_init_793 fwX12_266 rfl rfl g295 ?_
  refine r_aload_n (pc := 796) dX12_init_796 rfl 0 rfl ?_
  refine r_iconst (pc := 797) dX12_init_797 kc_iconst_4 ?_
  refine r_newa (pc := 798) (t := 21) (ti := 1) (ty := .long) dX12_init_798 rfl (by decide) ac21 (by decide) (by decide) (Nat.sub_le_sub_right (mX12_init_b800 h).1 _) (Nat.sub_le_sub_right (mX12_init_b800 h).2 _) ?_
  refine r_sub [0] rfl ?_
  exact wX12_init_b800 h
def fX12_init_b786  (t : Nat) (σ : Shp) (I : Nat → Nat → Int32) (J : Nat → Nat → Int64) (D : Nat → Nat → UInt64) (R : Nat → Nat → Option Nat) (s0 : Nat) (s1 : Nat) : Option ((Shp) × (Nat → Nat → Int32) × (Nat → Nat → Int64) × (Nat → Nat → UInt64) × (Nat → Nat → Option Nat)) :=
  if kdx σ s0 = 13 then
  let R293 := u2 R s0 113 (some s1)
  let σ294 := mkA σ 21 (Int32.toNatClampNeg (4 : Int32))
  fX12_init_b793 t σ294 I J D R293 t (nxx σ + 4)
  else none
theorem mX12_init_b786 {σ : Shp} {I : Nat → Nat → Int32} {J : Nat → Nat → Int64} {D : Nat → Nat → UInt64} {R : Nat → Nat → Option Nat} {t : Nat} {σ9 : Shp} {I9 : Nat → Nat → Int32} {J9 : Nat → Nat → Int64} {D9 : Nat → Nat → UInt64} {R9 : Nat → Nat → Option Nat} {s0 : Nat} {s1 : Nat} (h : fX12_init_b786 t σ I J D R s0 s1 = some (σ9, I9, J9, D9, R9)) : Lex σ σ9 := by
  unfold fX12_init_b786 at h
  replace h := (gd h).2
  exact Lex_mkA (mX12_init_b793 h)
theorem wX12_init_b786 {G : Gx} {l : Launch} {σ0 : Shp} {σ : Shp} {I : Nat → Nat → Int32} {J : Nat → Nat → Int64} {D : Nat → Nat → UInt64} {R : Nat → Nat → Option Nat} {t : Nat} {σ9 : Shp} {I9 : Nat → Nat → Int32} {J9 : Nat → Nat → Int64} {D9 : Nat → Nat → UInt64} {R9 : Nat → Nat → Option Nat} {s0 : Nat} {s1 : Nat} (h : fX12_init_b786 t σ I J D R s0 s1 = some (σ9, I9, J9, D9, R9)) : WX12_init G l σ0 (σ9, I9, J9, D9, R9) none (σ, I, J, D, R) 786 [(0, vR (some t))] [vR (some s1), vR (some s0)] := by
  unfold fX12_init_b786 at h
  obtain ⟨g292, h⟩ := gd h
  refine r_putRF (pc := 786) dX12_init_786 fwX12_263 rfl rfl g292 ?_
  refine r_aload_n (pc := 789) dX12_init_789 rfl 0 rfl ?_
  refine r_iconst (pc := 790) dX12_init_790 kc_iconst_4 ?_
  refine r_newa (pc := 791) (t := 21) (ti := 1) (ty := .long) dX12_init_791 rfl (by decide) ac21 (by decide) (by decide) (Nat.sub_le_sub_right (mX12_init_b793 h).1 _) (Nat.sub_le_sub_right (mX12_init_b793 h).2 _) ?_
  refine r_sub [0] rfl ?_
  exact wX12_init_b793 h
def fX12_init_b779  (t : Nat) (σ : Shp) (I : Nat → Nat → Int32) (J : Nat → Nat → Int64) (D : Nat → Nat → UInt64) (R : Nat → Nat → Option Nat) (s0 : Nat) (s1 : Nat) : Option ((Shp) × (Nat → Nat → Int32) × (Nat → Nat → Int64) × (Nat → Nat → UInt64) × (Nat → Nat → Option Nat)) :=
  if kdx σ s0 = 13 then
  let R290 := u2 R s0 112 (some s1)
  let σ291 := mkA σ 20 (Int32.toNatClampNeg (3 : Int32))
  fX12_init_b786 t σ291 I J D R290 t (nxx σ + 4)
  else none
theorem mX12_init_b779 {σ : Shp} {I : Nat → Nat → Int32} {J : Nat → Nat → Int64} {D : Nat → Nat → UInt64} {R : Nat → Nat → Option Nat} {t : Nat} {σ9 : Shp} {I9 : Nat → Nat → Int32} {J9 : Nat → Nat → Int64} {D9 : Nat → Nat → UInt64} {R9 : Nat → Nat → Option Nat} {s0 : Nat} {s1 : Nat} (h : fX12_init_b779 t σ I J D R s0 s1 = some (σ9, I9, J9, D9, R9)) : Lex σ σ9 := by
  unfold fX12_init_b779 at h
  replace h := (gd h).2
  exact Lex_mkA (mX12_init_b786 h)
theorem wX12_init_b779 {G : Gx} {l : Launch} {σ0 : Shp} {σ : Shp} {I : Nat → Nat → Int32} {J : Nat → Nat → Int64} {D : Nat → Nat → UInt64} {R : Nat → Nat → Option Nat} {t : Nat} {σ9 : Shp} {I9 : Nat → Nat → Int32} {J9 : Nat → Nat → Int64} {D9 : Nat → Nat → UInt64} {R9 : Nat → Nat → Option Nat} {s0 : Nat} {s1 : Nat} (h : fX12_init_b779 t σ I J D R s0 s1 = some (σ9, I9, J9, D9, R9)) : WX12_init G l σ0 (σ9, I9, J9, D9, R9) none (σ, I, J, D, R) 779 [(0, vR (some t))] [vR (some s1), vR (some s0)] := by
  unfold fX12_init_b779 at h
  obtain ⟨g289, h⟩ := gd h
  refine r_putRF (pc := 779) dX12_init_779 fwX12_260 rfl rfl g289 ?_
  refine r_aload_n (pc := 782) dX12_init_782 rfl 0 rfl ?_
  refine r_iconst (pc := 783) dX12_init_783 kc_iconst_3 ?_
  refine r_newa (pc := 784) (t := 20) (ti := 0) (ty := .int) dX12_init_784 rfl (by decide) ac20 (by decide) (by decide) (Nat.sub_le_sub_right (mX12_init_b786 h).1 _) (Nat.sub_le_sub_right (mX12_init_b786 h).2 _) ?_
  refine r_sub [0] rfl ?_
  exact wX12_init_b786 h
def fX12_init_b771  (t : Nat) (σ : Shp) (I : Nat → Nat → Int32) (J : Nat → Nat → Int64) (D : Nat → Nat → UInt64) (R : Nat → Nat → Option Nat) (s0 : Nat) (s1 : Nat) : Option ((Shp) × (Nat → Nat → Int32) × (Nat → Nat → Int64) × (Nat → Nat → UInt64) × (Nat → Nat → Option Nat)) :=
  if kdx σ s0 = 13 then
  let R287 := u2 R s0 111 (some s1)
  let σ288 := mkA σ 21 (Int32.toNatClampNeg (24 : Int32))
  fX12_init_b779 t σ288 I J D R287 t (nxx σ + 4)
  else none
theorem mX12_init_b771 {σ : Shp} {I : Nat → Nat → Int32} {J : Nat → Nat → Int64} {D : Nat → Nat → UInt64} {R : Nat → Nat → Option Nat} {t : Nat} {σ9 : Shp} {I9 : Nat → Nat → Int32} {J9 : Nat → Nat → Int64} {D9 : Nat → Nat → UInt64} {R9 : Nat → Nat → Option Nat} {s0 : Nat} {s1 : Nat} (h : fX12_init_b771 t σ I J D R s0 s1 = some (σ9, I9, J9, D9, R9)) : Lex σ σ9 := by
  unfold fX12_init_b771 at h
  replace h := (gd h).2
  exact Lex_mkA (mX12_init_b779 h)
theorem wX12_init_b771 {G : Gx} {l : Launch} {σ0 : Shp} {σ : Shp} {I : Nat → Nat → Int32} {J : Nat → Nat → Int64} {D : Nat → Nat → UInt64} {R : Nat → Nat → Option Nat} {t : Nat} {σ9 : Shp} {I9 : Nat → Nat → Int32} {J9 : Nat → Nat → Int64} {D9 : Nat → Nat → UInt64} {R9 : Nat → Nat → Option Nat} {s0 : Nat} {s1 : Nat} (h : fX12_init_b771 t σ I J D R s0 s1 = some (σ9, I9, J9, D9, R9)) : WX12_init G l σ0 (σ9, I9, J9, D9, R9) none (σ, I, J, D, R) 771 [(0, vR (some t))] [vR (some s1), vR (some s0)] := by
  unfold fX12_init_b771 at h
  obtain ⟨g286, h⟩ := gd h
  refine r_putRF (pc := 771) dX12_init_771 fwX12_257 rfl rfl g286 ?_
  refine r_aload_n (pc := 774) dX12_init_774 rfl 0 rfl ?_
  refine r_bipush (pc := 775) dX12_init_775 kc_bipush_24 ?_
  refine r_newa (pc := 777) (t := 21) (ti := 1) (ty := .long) dX12_init_777 rfl (by decide) ac21 (by decide) (by decide) (Nat.sub_le_sub_right (mX12_init_b779 h).1 _) (Nat.sub_le_sub_right (mX12_init_b779 h).2 _) ?_
  refine r_sub [0] rfl ?_
  exact wX12_init_b779 h
def fX12_init_b763  (t : Nat) (σ : Shp) (I : Nat → Nat → Int32) (J : Nat → Nat → Int64) (D : Nat → Nat → UInt64) (R : Nat → Nat → Option Nat) (s0 : Nat) (s1 : Nat) : Option ((Shp) × (Nat → Nat → Int32) × (Nat → Nat → Int64) × (Nat → Nat → UInt64) × (Nat → Nat → Option Nat)) :=
  if kdx σ s0 = 13 then
  let R284 := u2 R s0 110 (some s1)
  let σ285 := mkA σ 21 (Int32.toNatClampNeg (24 : Int32))
  fX12_init_b771 t σ285 I J D R284 t (nxx σ + 4)
  else none
theorem mX12_init_b763 {σ : Shp} {I : Nat → Nat → Int32} {J : Nat → Nat → Int64} {D : Nat → Nat → UInt64} {R : Nat → Nat → Option Nat} {t : Nat} {σ9 : Shp} {I9 : Nat → Nat → Int32} {J9 : Nat → Nat → Int64} {D9 : Nat → Nat → UInt64} {R9 : Nat → Nat → Option Nat} {s0 : Nat} {s1 : Nat} (h : fX12_init_b763 t σ I J D R s0 s1 = some (σ9, I9, J9, D9, R9)) : Lex σ σ9 := by
  unfold fX12_init_b763 at h
  replace h := (gd h).2
  exact Lex_mkA (mX12_init_b771 h)
theorem wX12_init_b763 {G : Gx} {l : Launch} {σ0 : Shp} {σ : Shp} {I : Nat → Nat → Int32} {J : Nat → Nat → Int64} {D : Nat → Nat → UInt64} {R : Nat → Nat → Option Nat} {t : Nat} {σ9 : Shp} {I9 : Nat → Nat → Int32} {J9 : Nat → Nat → Int64} {D9 : Nat → Nat → UInt64} {R9 : Nat → Nat → Option Nat} {s0 : Nat} {s1 : Nat} (h : fX12_init_b763 t σ I J D R s0 s1 = some (σ9, I9, J9, D9, R9)) : WX12_init G l σ0 (σ9, I9, J9, D9, R9) none (σ, I, J, D, R) 763 [(0, vR (some t))] [vR (some s1), vR (some s0)] := by
  unfold fX12_init_b763 at h
  obtain ⟨g283, h⟩ := gd h
  refine r_putRF (pc := 763) dX12_init_763 fwX12_254 rfl rfl g283 ?_
  refine r_aload_n (pc := 766) dX12_init_766 rfl 0 rfl ?_
  refine r_bipush (pc := 767) dX12_init_767 kc_bipush_24 ?_
  refine r_newa (pc := 769) (t := 21) (ti := 1) (ty := .long) dX12_init_769 rfl (by decide) ac21 (by decide) (by decide) (Nat.sub_le_sub_right (mX12_init_b771 h).1 _) (Nat.sub_le_sub_right (mX12_init_b771 h).2 _) ?_
  refine r_sub [0] rfl ?_
  exact wX12_init_b771 h
def fX12_init_b755  (t : Nat) (σ : Shp) (I : Nat → Nat → Int32) (J : Nat → Nat → Int64) (D : Nat → Nat → UInt64) (R : Nat → Nat → Option Nat) (s0 : Nat) (s1 : Nat) : Option ((Shp) × (Nat → Nat → Int32) × (Nat → Nat → Int64) × (Nat → Nat → UInt64) × (Nat → Nat → Option Nat)) :=
  if kdx σ s0 = 13 then
  let R281 := u2 R s0 109 (some s1)
  let σ282 := mkA σ 20 (Int32.toNatClampNeg (18 : Int32))
  fX12_init_b763 t σ282 I J D R281 t (nxx σ + 4)
  else none
theorem mX12_init_b755 {σ : Shp} {I : Nat → Nat → Int32} {J : Nat → Nat → Int64} {D : Nat → Nat → UInt64} {R : Nat → Nat → Option Nat} {t : Nat} {σ9 : Shp} {I9 : Nat → Nat → Int32} {J9 : Nat → Nat → Int64} {D9 : Nat → Nat → UInt64} {R9 : Nat → Nat → Option Nat} {s0 : Nat} {s1 : Nat} (h : fX12_init_b755 t σ I J D R s0 s1 = some (σ9, I9, J9, D9, R9)) : Lex σ σ9 := by
  unfold fX12_init_b755 at h
  replace h := (gd h).2
  exact Lex_mkA (mX12_init_b763 h)
theorem wX12_init_b755 {G : Gx} {l : Launch} {σ0 : Shp} {σ : Shp} {I : Nat → Nat → Int32} {J : Nat → Nat → Int64} {D : Nat → Nat → UInt64} {R : Nat → Nat → Option Nat} {t : Nat} {σ9 : Shp} {I9 : Nat → Nat → Int32} {J9 : Nat → Nat → Int64} {D9 : Nat → Nat → UInt64} {R9 : Nat → Nat → Option Nat} {s0 : Nat} {s1 : Nat} (h : fX12_init_b755 t σ I J D R s0 s1 = some (σ9, I9, J9, D9, R9)) : WX12_init G l σ0 (σ9, I9, J9, D9, R9) none (σ, I, J, D, R) 755 [(0, vR (some t))] [vR (some s1), vR (some s0)] := by
  unfold fX12_init_b755 at h
  obtain ⟨g280, h⟩ := gd h
  refine r_putRF (pc := 755) dX12_init_755 fwX12_250 rfl rfl g280 ?_
  refine r_aload_n (pc := 758) dX12_init_758 rfl 0 rfl ?_
  refine r_bipush (pc := 759) dX12_init_759 kc_bipush_18 ?_
  refine r_newa (pc := 761) (t := 20) (ti := 0) (ty := .int) dX12_init_761 rfl (by decide) ac20 (by decide) (by decide) (Nat.sub_le_sub_right (mX12_init_b763 h).1 _) (Nat.sub_le_sub_right (mX12_init_b763 h).2 _) ?_
  refine r_sub [0] rfl ?_
  exact wX12_init_b763 h
def fX12_init_b747  (t : Nat) (σ : Shp) (I : Nat → Nat → Int32) (J : Nat → Nat → Int64) (D : Nat → Nat → UInt64) (R : Nat → Nat → Option Nat) (s0 : Nat) (s1 : Nat) : Option ((Shp) × (Nat → Nat → Int32) × (Nat → Nat → Int64) × (Nat → Nat → UInt64) × (Nat → Nat → Option Nat)) :=
  if kdx σ s0 = 13 then
  let R278 := u2 R s0 108 (some s1)
  let σ279 := mkA σ 25 (Int32.toNatClampNeg (40 : Int32))
  fX12_init_b755 t σ279 I J D R278 t (nxx σ + 4)
  else none
theorem mX12_init_b747 {σ : Shp} {I : Nat → Nat → Int32} {J : Nat → Nat → Int64} {D : Nat → Nat → UInt64} {R : Nat → Nat → Option Nat} {t : Nat} {σ9 : Shp} {I9 : Nat → Nat → Int32} {J9 : Nat → Nat → Int64} {D9 : Nat → Nat → UInt64} {R9 : Nat → Nat → Option Nat} {s0 : Nat} {s1 : Nat} (h : fX12_init_b747 t σ I J D R s0 s1 = some (σ9, I9, J9, D9, R9)) : Lex σ σ9 := by
  unfold fX12_init_b747 at h
  replace h := (gd h).2
  exact Lex_mkA (mX12_init_b755 h)
theorem wX12_init_b747 {G : Gx} {l : Launch} {σ0 : Shp} {σ : Shp} {I : Nat → Nat → Int32} {J : Nat → Nat → Int64} {D : Nat → Nat → UInt64} {R : Nat → Nat → Option Nat} {t : Nat} {σ9 : Shp} {I9 : Nat → Nat → Int32} {J9 : Nat → Nat → Int64} {D9 : Nat → Nat → UInt64} {R9 : Nat → Nat → Option Nat} {s0 : Nat} {s1 : Nat} (h : fX12_init_b747 t σ I J D R s0 s1 = some (σ9, I9, J9, D9, R9)) : WX12_init G l σ0 (σ9, I9, J9, D9, R9) none (σ, I, J, D, R) 747 [(0, vR (some t))] [vR (some s1), vR (some s0)] := by
  unfold fX12_init_b747 at h
  obtain ⟨g277, h⟩ := gd h
  refine r_putRF (pc := 747) dX12_init_747 fwX12_247 rfl rfl g277 ?_
  refine r_aload_n (pc := 750) dX12_init_750 rfl 0 rfl ?_
  refine r_bipush (pc := 751) dX12_init_751 kc_bipush_40 ?_
  refine r_newa (pc := 753) (t := 25) (ti := 5) (ty := .double) dX12_init_753 rfl (by decide) ac25 (by decide) (by decide) (Nat.sub_le_sub_right (mX12_init_b755 h).1 _) (Nat.sub_le_sub_right (mX12_init_b755 h).2 _) ?_
  refine r_sub [0] rfl ?_
  exact wX12_init_b755 h
def fX12_init_b739  (t : Nat) (σ : Shp) (I : Nat → Nat → Int32) (J : Nat → Nat → Int64) (D : Nat → Nat → UInt64) (R : Nat → Nat → Option Nat) (s0 : Nat) (s1 : Nat) : Option ((Shp) × (Nat → Nat → Int32) × (Nat → Nat → Int64) × (Nat → Nat → UInt64) × (Nat → Nat → Option Nat)) :=
  if kdx σ s0 = 13 then
  let R275 := u2 R s0 107 (some s1)
  let σ276 := mkA σ 21 (Int32.toNatClampNeg (40 : Int32))
  fX12_init_b747 t σ276 I J D R275 t (nxx σ + 4)
  else none
theorem mX12_init_b739 {σ : Shp} {I : Nat → Nat → Int32} {J : Nat → Nat → Int64} {D : Nat → Nat → UInt64} {R : Nat → Nat → Option Nat} {t : Nat} {σ9 : Shp} {I9 : Nat → Nat → Int32} {J9 : Nat → Nat → Int64} {D9 : Nat → Nat → UInt64} {R9 : Nat → Nat → Option Nat} {s0 : Nat} {s1 : Nat} (h : fX12_init_b739 t σ I J D R s0 s1 = some (σ9, I9, J9, D9, R9)) : Lex σ σ9 := by
  unfold fX12_init_b739 at h
  replace h := (gd h).2
  exact Lex_mkA (mX12_init_b747 h)
theorem wX12_init_b739 {G : Gx} {l : Launch} {σ0 : Shp} {σ : Shp} {I : Nat → Nat → Int32} {J : Nat → Nat → Int64} {D : Nat → Nat → UInt64} {R : Nat → Nat → Option Nat} {t : Nat} {σ9 : Shp} {I9 : Nat → Nat → Int32} {J9 : Nat → Nat → Int64} {D9 : Nat → Nat → UInt64} {R9 : Nat → Nat → Option Nat} {s0 : Nat} {s1 : Nat} (h : fX12_init_b739 t σ I J D R s0 s1 = some (σ9, I9, J9, D9, R9)) : WX12_init G l σ0 (σ9, I9, J9, D9, R9) none (σ, I, J, D, R) 739 [(0, vR (some t))] [vR (some s1), vR (some s0)] := by
  unfold fX12_init_b739 at h
  obtain ⟨g274, h⟩ := gd h
  refine r_putRF (pc := 739) dX12_init_739 fwX12_244 rfl rfl g274 ?_
  refine r_aload_n (pc := 742) dX12_init_742 rfl 0 rfl ?_
  refine r_bipush (pc := 743) dX12_init_743 kc_bipush_40 ?_
  refine r_newa (pc := 745) (t := 21) (ti := 1) (ty := .long) dX12_init_745 rfl (by decide) ac21 (by decide) (by decide) (Nat.sub_le_sub_right (mX12_init_b747 h).1 _) (Nat.sub_le_sub_right (mX12_init_b747 h).2 _) ?_
  refine r_sub [0] rfl ?_
  exact wX12_init_b747 h
def fX12_init_b731  (t : Nat) (σ : Shp) (I : Nat → Nat → Int32) (J : Nat → Nat → Int64) (D : Nat → Nat → UInt64) (R : Nat → Nat → Option Nat) (s0 : Nat) (s1 : Nat) : Option ((Shp) × (Nat → Nat → Int32) × (Nat → Nat → Int64) × (Nat → Nat → UInt64) × (Nat → Nat → Option Nat)) :=
  if kdx σ s0 = 13 then
  let R272 := u2 R s0 106 (some s1)
  let σ273 := mkA σ 21 (Int32.toNatClampNeg (40 : Int32))
  fX12_init_b739 t σ273 I J D R272 t (nxx σ + 4)
  else none
theorem mX12_init_b731 {σ : Shp} {I : Nat → Nat → Int32} {J : Nat → Nat → Int64} {D : Nat → Nat → UInt64} {R : Nat → Nat → Option Nat} {t : Nat} {σ9 : Shp} {I9 : Nat → Nat → Int32} {J9 : Nat → Nat → Int64} {D9 : Nat → Nat → UInt64} {R9 : Nat → Nat → Option Nat} {s0 : Nat} {s1 : Nat} (h : fX12_init_b731 t σ I J D R s0 s1 = some (σ9, I9, J9, D9, R9)) : Lex σ σ9 := by
  unfold fX12_init_b731 at h
  replace h := (gd h).2
  exact Lex_mkA (mX12_init_b739 h)
theorem wX12_init_b731 {G : Gx} {l : Launch} {σ0 : Shp} {σ : Shp} {I : Nat → Nat → Int32} {J : Nat → Nat → Int64} {D : Nat → Nat → UInt64} {R : Nat → Nat → Option Nat} {t : Nat} {σ9 : Shp} {I9 : Nat → Nat → Int32} {J9 : Nat → Nat → Int64} {D9 : Nat → Nat → UInt64} {R9 : Nat → Nat → Option Nat} {s0 : Nat} {s1 : Nat} (h : fX12_init_b731 t σ I J D R s0 s1 = some (σ9, I9, J9, D9, R9)) : WX12_init G l σ0 (σ9, I9, J9, D9, R9) none (σ, I, J, D, R) 731 [(0, vR (some t))] [vR (some s1), vR (some s0)] := by
  unfold fX12_init_b731 at h
  obtain ⟨g271, h⟩ := gd h
  refine r_putRF (pc := 731) dX12_init_731 fwX12_241 rfl rfl g271 ?_
  refine r_aload_n (pc := 734) dX12_init_734 rfl 0 rfl ?_
  refine r_bipush (pc := 735) dX12_init_735 kc_bipush_40 ?_
  refine r_newa (pc := 737) (t := 21) (ti := 1) (ty := .long) dX12_init_737 rfl (by decide) ac21 (by decide) (by decide) (Nat.sub_le_sub_right (mX12_init_b739 h).1 _) (Nat.sub_le_sub_right (mX12_init_b739 h).2 _) ?_
  refine r_sub [0] rfl ?_
  exact wX12_init_b739 h
def fX12_init_b723  (t : Nat) (σ : Shp) (I : Nat → Nat → Int32) (J : Nat → Nat → Int64) (D : Nat → Nat → UInt64) (R : Nat → Nat → Option Nat) (s0 : Nat) (s1 : Nat) : Option ((Shp) × (Nat → Nat → Int32) × (Nat → Nat → Int64) × (Nat → Nat → UInt64) × (Nat → Nat → Option Nat)) :=
  if kdx σ s0 = 13 then
  let R269 := u2 R s0 105 (some s1)
  let σ270 := mkA σ 21 (Int32.toNatClampNeg (40 : Int32))
  fX12_init_b731 t σ270 I J D R269 t (nxx σ + 4)
  else none
theorem mX12_init_b723 {σ : Shp} {I : Nat → Nat → Int32} {J : Nat → Nat → Int64} {D : Nat → Nat → UInt64} {R : Nat → Nat → Option Nat} {t : Nat} {σ9 : Shp} {I9 : Nat → Nat → Int32} {J9 : Nat → Nat → Int64} {D9 : Nat → Nat → UInt64} {R9 : Nat → Nat → Option Nat} {s0 : Nat} {s1 : Nat} (h : fX12_init_b723 t σ I J D R s0 s1 = some (σ9, I9, J9, D9, R9)) : Lex σ σ9 := by
  unfold fX12_init_b723 at h
  replace h := (gd h).2
  exact Lex_mkA (mX12_init_b731 h)
theorem wX12_init_b723 {G : Gx} {l : Launch} {σ0 : Shp} {σ : Shp} {I : Nat → Nat → Int32} {J : Nat → Nat → Int64} {D : Nat → Nat → UInt64} {R : Nat → Nat → Option Nat} {t : Nat} {σ9 : Shp} {I9 : Nat → Nat → Int32} {J9 : Nat → Nat → Int64} {D9 : Nat → Nat → UInt64} {R9 : Nat → Nat → Option Nat} {s0 : Nat} {s1 : Nat} (h : fX12_init_b723 t σ I J D R s0 s1 = some (σ9, I9, J9, D9, R9)) : WX12_init G l σ0 (σ9, I9, J9, D9, R9) none (σ, I, J, D, R) 723 [(0, vR (some t))] [vR (some s1), vR (some s0)] := by
  unfold fX12_init_b723 at h
  obtain ⟨g268, h⟩ := gd h
  refine r_putRF (pc := 723) dX12_init_723 fwX12_238 rfl rfl g268 ?_
  refine r_aload_n (pc := 726) dX12_init_726 rfl 0 rfl ?_
  refine r_bipush (pc := 727) dX12_init_727 kc_bipush_40 ?_
  refine r_newa (pc := 729) (t := 21) (ti := 1) (ty := .long) dX12_init_729 rfl (by decide) ac21 (by decide) (by decide) (Nat.sub_le_sub_right (mX12_init_b731 h).1 _) (Nat.sub_le_sub_right (mX12_init_b731 h).2 _) ?_
  refine r_sub [0] rfl ?_
  exact wX12_init_b731 h
def fX12_init_b715  (t : Nat) (σ : Shp) (I : Nat → Nat → Int32) (J : Nat → Nat → Int64) (D : Nat → Nat → UInt64) (R : Nat → Nat → Option Nat) (s0 : Nat) (s1 : Nat) : Option ((Shp) × (Nat → Nat → Int32) × (Nat → Nat → Int64) × (Nat → Nat → UInt64) × (Nat → Nat → Option Nat)) :=
  if kdx σ s0 = 13 then
  let R266 := u2 R s0 104 (some s1)
  let σ267 := mkA σ 20 (Int32.toNatClampNeg (18 : Int32))
  fX12_init_b723 t σ267 I J D R266 t (nxx σ + 4)
  else none
theorem mX12_init_b715 {σ : Shp} {I : Nat → Nat → Int32} {J : Nat → Nat → Int64} {D : Nat → Nat → UInt64} {R : Nat → Nat → Option Nat} {t : Nat} {σ9 : Shp} {I9 : Nat → Nat → Int32} {J9 : Nat → Nat → Int64} {D9 : Nat → Nat → UInt64} {R9 : Nat → Nat → Option Nat} {s0 : Nat} {s1 : Nat} (h : fX12_init_b715 t σ I J D R s0 s1 = some (σ9, I9, J9, D9, R9)) : Lex σ σ9 := by
  unfold fX12_init_b715 at h
  replace h := (gd h).2
  exact Lex_mkA (mX12_init_b723 h)
theorem wX12_init_b715 {G : Gx} {l : Launch} {σ0 : Shp} {σ : Shp} {I : Nat → Nat → Int32} {J : Nat → Nat → Int64} {D : Nat → Nat → UInt64} {R : Nat → Nat → Option Nat} {t : Nat} {σ9 : Shp} {I9 : Nat → Nat → Int32} {J9 : Nat → Nat → Int64} {D9 : Nat → Nat → UInt64} {R9 : Nat → Nat → Option Nat} {s0 : Nat} {s1 : Nat} (h : fX12_init_b715 t σ I J D R s0 s1 = some (σ9, I9, J9, D9, R9)) : WX12_init G l σ0 (σ9, I9, J9, D9, R9) none (σ, I, J, D, R) 715 [(0, vR (some t))] [vR (some s1), vR (some s0)] := by
  unfold fX12_init_b715 at h
  obtain ⟨g265, h⟩ := gd h
  refine r_putRF (pc := 715) dX12_init_715 fwX12_235 rfl rfl g265 ?_
  refine r_aload_n (pc := 718) dX12_init_718 rfl 0 rfl ?_
  refine r_bipush (pc := 719) dX12_init_719 kc_bipush_18 ?_
  refine r_newa (pc := 721) (t := 20) (ti := 0) (ty := .int) dX12_init_721 rfl (by decide) ac20 (by decide) (by decide) (Nat.sub_le_sub_right (mX12_init_b723 h).1 _) (Nat.sub_le_sub_right (mX12_init_b723 h).2 _) ?_
  refine r_sub [0] rfl ?_
  exact wX12_init_b723 h
def fX12_init_b707  (t : Nat) (σ : Shp) (I : Nat → Nat → Int32) (J : Nat → Nat → Int64) (D : Nat → Nat → UInt64) (R : Nat → Nat → Option Nat) (s0 : Nat) (s1 : Nat) : Option ((Shp) × (Nat → Nat → Int32) × (Nat → Nat → Int64) × (Nat → Nat → UInt64) × (Nat → Nat → Option Nat)) :=
  if kdx σ s0 = 13 then
  let R263 := u2 R s0 103 (some s1)
  let σ264 := mkA σ 20 (Int32.toNatClampNeg (18 : Int32))
  fX12_init_b715 t σ264 I J D R263 t (nxx σ + 4)
  else none
theorem mX12_init_b707 {σ : Shp} {I : Nat → Nat → Int32} {J : Nat → Nat → Int64} {D : Nat → Nat → UInt64} {R : Nat → Nat → Option Nat} {t : Nat} {σ9 : Shp} {I9 : Nat → Nat → Int32} {J9 : Nat → Nat → Int64} {D9 : Nat → Nat → UInt64} {R9 : Nat → Nat → Option Nat} {s0 : Nat} {s1 : Nat} (h : fX12_init_b707 t σ I J D R s0 s1 = some (σ9, I9, J9, D9, R9)) : Lex σ σ9 := by
  unfold fX12_init_b707 at h
  replace h := (gd h).2
  exact Lex_mkA (mX12_init_b715 h)
theorem wX12_init_b707 {G : Gx} {l : Launch} {σ0 : Shp} {σ : Shp} {I : Nat → Nat → Int32} {J : Nat → Nat → Int64} {D : Nat → Nat → UInt64} {R : Nat → Nat → Option Nat} {t : Nat} {σ9 : Shp} {I9 : Nat → Nat → Int32} {J9 : Nat → Nat → Int64} {D9 : Nat → Nat → UInt64} {R9 : Nat → Nat → Option Nat} {s0 : Nat} {s1 : Nat} (h : fX12_init_b707 t σ I J D R s0 s1 = some (σ9, I9, J9, D9, R9)) : WX12_init G l σ0 (σ9, I9, J9, D9, R9) none (σ, I, J, D, R) 707 [(0, vR (some t))] [vR (some s1), vR (some s0)] := by
  unfold fX12_init_b707 at h
  obtain ⟨g262, h⟩ := gd h
  refine r_putRF (pc := 707) dX12_init_707 fwX12_232 rfl rfl g262 ?_
  refine r_aload_n (pc := 710) dX12_init_710 rfl 0 rfl ?_
  refine r_bipush (pc := 711) dX12_init_711 kc_bipush_18 ?_
  refine r_newa (pc := 713) (t := 20) (ti := 0) (ty := .int) dX12_init_713 rfl (by decide) ac20 (by decide) (by decide) (Nat.sub_le_sub_right (mX12_init_b715 h).1 _) (Nat.sub_le_sub_right (mX12_init_b715 h).2 _) ?_
  refine r_sub [0] rfl ?_
  exact wX12_init_b715 h
def fX12_init_b700  (t : Nat) (σ : Shp) (I : Nat → Nat → Int32) (J : Nat → Nat → Int64) (D : Nat → Nat → UInt64) (R : Nat → Nat → Option Nat) (s0 : Nat) (s1 : Nat) : Option ((Shp) × (Nat → Nat → Int32) × (Nat → Nat → Int64) × (Nat → Nat → UInt64) × (Nat → Nat → Option Nat)) :=
  if kdx σ s0 = 13 then
  let R260 := u2 R s0 102 (some s1)
  let σ261 := mkA σ 20 (Int32.toNatClampNeg (3 : Int32))
  fX12_init_b707 t σ261 I J D R260 t (nxx σ + 4)
  else none
theorem mX12_init_b700 {σ : Shp} {I : Nat → Nat → Int32} {J : Nat → Nat → Int64} {D : Nat → Nat → UInt64} {R : Nat → Nat → Option Nat} {t : Nat} {σ9 : Shp} {I9 : Nat → Nat → Int32} {J9 : Nat → Nat → Int64} {D9 : Nat → Nat → UInt64} {R9 : Nat → Nat → Option Nat} {s0 : Nat} {s1 : Nat} (h : fX12_init_b700 t σ I J D R s0 s1 = some (σ9, I9, J9, D9, R9)) : Lex σ σ9 := by
  unfold fX12_init_b700 at h
  replace h := (gd h).2
  exact Lex_mkA (mX12_init_b707 h)
theorem wX12_init_b700 {G : Gx} {l : Launch} {σ0 : Shp} {σ : Shp} {I : Nat → Nat → Int32} {J : Nat → Nat → Int64} {D : Nat → Nat → UInt64} {R : Nat → Nat → Option Nat} {t : Nat} {σ9 : Shp} {I9 : Nat → Nat → Int32} {J9 : Nat → Nat → Int64} {D9 : Nat → Nat → UInt64} {R9 : Nat → Nat → Option Nat} {s0 : Nat} {s1 : Nat} (h : fX12_init_b700 t σ I J D R s0 s1 = some (σ9, I9, J9, D9, R9)) : WX12_init G l σ0 (σ9, I9, J9, D9, R9) none (σ, I, J, D, R) 700 [(0, vR (some t))] [vR (some s1), vR (some s0)] := by
  unfold fX12_init_b700 at h
  obtain ⟨g259, h⟩ := gd h
  refine r_putRF (pc := 700) dX12_init_700 fwX12_229 rfl rfl g259 ?_
  refine r_aload_n (pc := 703) dX12_init_703 rfl 0 rfl ?_
  refine r_iconst (pc := 704) dX12_init_704 kc_iconst_3 ?_
  refine r_newa (pc := 705) (t := 20) (ti := 0) (ty := .int) dX12_init_705 rfl (by decide) ac20 (by decide) (by decide) (Nat.sub_le_sub_right (mX12_init_b707 h).1 _) (Nat.sub_le_sub_right (mX12_init_b707 h).2 _) ?_
  refine r_sub [0] rfl ?_
  exact wX12_init_b707 h
def fX12_init_b692  (t : Nat) (σ : Shp) (I : Nat → Nat → Int32) (J : Nat → Nat → Int64) (D : Nat → Nat → UInt64) (R : Nat → Nat → Option Nat) (s0 : Nat) (s1 : Nat) : Option ((Shp) × (Nat → Nat → Int32) × (Nat → Nat → Int64) × (Nat → Nat → UInt64) × (Nat → Nat → Option Nat)) :=
  if kdx σ s0 = 13 then
  let R257 := u2 R s0 101 (some s1)
  let σ258 := mkA σ 21 (Int32.toNatClampNeg (18 : Int32))
  fX12_init_b700 t σ258 I J D R257 t (nxx σ + 4)
  else none
theorem mX12_init_b692 {σ : Shp} {I : Nat → Nat → Int32} {J : Nat → Nat → Int64} {D : Nat → Nat → UInt64} {R : Nat → Nat → Option Nat} {t : Nat} {σ9 : Shp} {I9 : Nat → Nat → Int32} {J9 : Nat → Nat → Int64} {D9 : Nat → Nat → UInt64} {R9 : Nat → Nat → Option Nat} {s0 : Nat} {s1 : Nat} (h : fX12_init_b692 t σ I J D R s0 s1 = some (σ9, I9, J9, D9, R9)) : Lex σ σ9 := by
  unfold fX12_init_b692 at h
  replace h := (gd h).2
  exact Lex_mkA (mX12_init_b700 h)
theorem wX12_init_b692 {G : Gx} {l : Launch} {σ0 : Shp} {σ : Shp} {I : Nat → Nat → Int32} {J : Nat → Nat → Int64} {D : Nat → Nat → UInt64} {R : Nat → Nat → Option Nat} {t : Nat} {σ9 : Shp} {I9 : Nat → Nat → Int32} {J9 : Nat → Nat → Int64} {D9 : Nat → Nat → UInt64} {R9 : Nat → Nat → Option Nat} {s0 : Nat} {s1 : Nat} (h : fX12_init_b692 t σ I J D R s0 s1 = some (σ9, I9, J9, D9, R9)) : WX12_init G l σ0 (σ9, I9, J9, D9, R9) none (σ, I, J, D, R) 692 [(0, vR (some t))] [vR (some s1), vR (some s0)] := by
  unfold fX12_init_b692 at h
  obtain ⟨g256, h⟩ := gd h
  refine r_putRF (pc := 692) dX12_init_692 fwX12_226 rfl rfl g256 ?_
  refine r_aload_n (pc := 695) dX12_init_695 rfl 0 rfl ?_
  refine r_bipush (pc := 696) dX12_init_696 kc_bipush_18 ?_
  refine r_newa (pc := 698) (t := 21) (ti := 1) (ty := .long) dX12_init_698 rfl (by decide) ac21 (by decide) (by decide) (Nat.sub_le_sub_right (mX12_init_b700 h).1 _) (Nat.sub_le_sub_right (mX12_init_b700 h).2 _) ?_
  refine r_sub [0] rfl ?_
  exact wX12_init_b700 h
def fX12_init_b685  (t : Nat) (σ : Shp) (I : Nat → Nat → Int32) (J : Nat → Nat → Int64) (D : Nat → Nat → UInt64) (R : Nat → Nat → Option Nat) (s0 : Nat) (s1 : Nat) : Option ((Shp) × (Nat → Nat → Int32) × (Nat → Nat → Int64) × (Nat → Nat → UInt64) × (Nat → Nat → Option Nat)) :=
  if kdx σ s0 = 13 then
  let R254 := u2 R s0 100 (some s1)
  let σ255 := mkA σ 20 (Int32.toNatClampNeg (3 : Int32))
  fX12_init_b692 t σ255 I J D R254 t (nxx σ + 4)
  else none
theorem mX12_init_b685 {σ : Shp} {I : Nat → Nat → Int32} {J : Nat → Nat → Int64} {D : Nat → Nat → UInt64} {R : Nat → Nat → Option Nat} {t : Nat} {σ9 : Shp} {I9 : Nat → Nat → Int32} {J9 : Nat → Nat → Int64} {D9 : Nat → Nat → UInt64} {R9 : Nat → Nat → Option Nat} {s0 : Nat} {s1 : Nat} (h : fX12_init_b685 t σ I J D R s0 s1 = some (σ9, I9, J9, D9, R9)) : Lex σ σ9 := by
  unfold fX12_init_b685 at h
  replace h := (gd h).2
  exact Lex_mkA (mX12_init_b692 h)
theorem wX12_init_b685 {G : Gx} {l : Launch} {σ0 : Shp} {σ : Shp} {I : Nat → Nat → Int32} {J : Nat → Nat → Int64} {D : Nat → Nat → UInt64} {R : Nat → Nat → Option Nat} {t : Nat} {σ9 : Shp} {I9 : Nat → Nat → Int32} {J9 : Nat → Nat → Int64} {D9 : Nat → Nat → UInt64} {R9 : Nat → Nat → Option Nat} {s0 : Nat} {s1 : Nat} (h : fX12_init_b685 t σ I J D R s0 s1 = some (σ9, I9, J9, D9, R9)) : WX12_init G l σ0 (σ9, I9, J9, D9, R9) none (σ, I, J, D, R) 685 [(0, vR (some t))] [vR (some s1), vR (some s0)] := by
  unfold fX12_init_b685 at h
  obtain ⟨g253, h⟩ := gd h
  refine r_putRF (pc := 685) dX12_init_685 fwX12_223 rfl rfl g253 ?_
  refine r_aload_n (pc := 688) dX12_init_688 rfl 0 rfl ?_
  refine r_iconst (pc := 689) dX12_init_689 kc_iconst_3 ?_
  refine r_newa (pc := 690) (t := 20) (ti := 0) (ty := .int) dX12_init_690 rfl (by decide) ac20 (by decide) (by decide) (Nat.sub_le_sub_right (mX12_init_b692 h).1 _) (Nat.sub_le_sub_right (mX12_init_b692 h).2 _) ?_
  refine r_sub [0] rfl ?_
  exact wX12_init_b692 h
def fX12_init_b678  (t : Nat) (σ : Shp) (I : Nat → Nat → Int32) (J : Nat → Nat → Int64) (D : Nat → Nat → UInt64) (R : Nat → Nat → Option Nat) (s0 : Nat) (s1 : Nat) : Option ((Shp) × (Nat → Nat → Int32) × (Nat → Nat → Int64) × (Nat → Nat → UInt64) × (Nat → Nat → Option Nat)) :=
  if kdx σ s0 = 13 then
  let R251 := u2 R s0 99 (some s1)
  let σ252 := mkA σ 20 (Int32.toNatClampNeg (3 : Int32))
  fX12_init_b685 t σ252 I J D R251 t (nxx σ + 4)
  else none
theorem mX12_init_b678 {σ : Shp} {I : Nat → Nat → Int32} {J : Nat → Nat → Int64} {D : Nat → Nat → UInt64} {R : Nat → Nat → Option Nat} {t : Nat} {σ9 : Shp} {I9 : Nat → Nat → Int32} {J9 : Nat → Nat → Int64} {D9 : Nat → Nat → UInt64} {R9 : Nat → Nat → Option Nat} {s0 : Nat} {s1 : Nat} (h : fX12_init_b678 t σ I J D R s0 s1 = some (σ9, I9, J9, D9, R9)) : Lex σ σ9 := by
  unfold fX12_init_b678 at h
  replace h := (gd h).2
  exact Lex_mkA (mX12_init_b685 h)
theorem wX12_init_b678 {G : Gx} {l : Launch} {σ0 : Shp} {σ : Shp} {I : Nat → Nat → Int32} {J : Nat → Nat → Int64} {D : Nat → Nat → UInt64} {R : Nat → Nat → Option Nat} {t : Nat} {σ9 : Shp} {I9 : Nat → Nat → Int32} {J9 : Nat → Nat → Int64} {D9 : Nat → Nat → UInt64} {R9 : Nat → Nat → Option Nat} {s0 : Nat} {s1 : Nat} (h : fX12_init_b678 t σ I J D R s0 s1 = some (σ9, I9, J9, D9, R9)) : WX12_init G l σ0 (σ9, I9, J9, D9, R9) none (σ, I, J, D, R) 678 [(0, vR (some t))] [vR (some s1), vR (some s0)] := by
  unfold fX12_init_b678 at h
  obtain ⟨g250, h⟩ := gd h
  refine r_putRF (pc := 678) dX12_init_678 fwX12_220 rfl rfl g250 ?_
  refine r_aload_n (pc := 681) dX12_init_681 rfl 0 rfl ?_
  refine r_iconst (pc := 682) dX12_init_682 kc_iconst_3 ?_
  refine r_newa (pc := 683) (t := 20) (ti := 0) (ty := .int) dX12_init_683 rfl (by decide) ac20 (by decide) (by decide) (Nat.sub_le_sub_right (mX12_init_b685 h).1 _) (Nat.sub_le_sub_right (mX12_init_b685 h).2 _) ?_
  refine r_sub [0] rfl ?_
  exact wX12_init_b685 h
def fX12_init_b653  (t : Nat) (σ : Shp) (I : Nat → Nat → Int32) (J : Nat → Nat → Int64) (D : Nat → Nat → UInt64) (R : Nat → Nat → Option Nat) (s0 : Nat) (s1 : Nat) : Option ((Shp) × (Nat → Nat → Int32) × (Nat → Nat → Int64) × (Nat → Nat → UInt64) × (Nat → Nat → Option Nat)) :=
  if kdx σ s1 = 21 then
  if ¬ ((0 : Int32) < 0 ∨ lnx σ s1 ≤ Int32.toNatClampNeg (0 : Int32)) then
  let J242 := u2 J s1 (Int32.toNatClampNeg (0 : Int32)) (8000 : Int64)
  if ¬ ((1 : Int32) < 0 ∨ lnx σ s1 ≤ Int32.toNatClampNeg (1 : Int32)) then
  let J244 := u2 J242 s1 (Int32.toNatClampNeg (1 : Int32)) (8000 : Int64)
  if ¬ ((2 : Int32) < 0 ∨ lnx σ s1 ≤ Int32.toNatClampNeg (2 : Int32)) then
  let J246 := u2 J244 s1 (Int32.toNatClampNeg (2 : Int32)) (8000 : Int64)
  if kdx σ s0 = 13 then
  let R248 := u2 R s0 98 (some s1)
  let σ249 := mkA σ 20 (Int32.toNatClampNeg (3 : Int32))
  fX12_init_b678 t σ249 I J246 D R248 t (nxx σ + 4)
  else none
  else none
  else none
  else none
  else none
theorem mX12_init_b653 {σ : Shp} {I : Nat → Nat → Int32} {J : Nat → Nat → Int64} {D : Nat → Nat → UInt64} {R : Nat → Nat → Option Nat} {t : Nat} {σ9 : Shp} {I9 : Nat → Nat → Int32} {J9 : Nat → Nat → Int64} {D9 : Nat → Nat → UInt64} {R9 : Nat → Nat → Option Nat} {s0 : Nat} {s1 : Nat} (h : fX12_init_b653 t σ I J D R s0 s1 = some (σ9, I9, J9, D9, R9)) : Lex σ σ9 := by
  unfold fX12_init_b653 at h
  replace h := (gd h).2
  replace h := (gd h).2
  replace h := (gd h).2
  replace h := (gd h).2
  replace h := (gd h).2
  exact Lex_mkA (mX12_init_b678 h)
theorem wX12_init_b653 {G : Gx} {l : Launch} {σ0 : Shp} {σ : Shp} {I : Nat → Nat → Int32} {J : Nat → Nat → Int64} {D : Nat → Nat → UInt64} {R : Nat → Nat → Option Nat} {t : Nat} {σ9 : Shp} {I9 : Nat → Nat → Int32} {J9 : Nat → Nat → Int64} {D9 : Nat → Nat → UInt64} {R9 : Nat → Nat → Option Nat} {s0 : Nat} {s1 : Nat} (h : fX12_init_b653 t σ I J D R s0 s1 = some (σ9, I9, J9, D9, R9)) : WX12_init G l σ0 (σ9, I9, J9, D9, R9) none (σ, I, J, D, R) 653 [(0, vR (some t))] [vR (some s1), vR (some s0)] := by
  unfold fX12_init_b653 at h
  refine r_dup (pc := 653) dX12_init_653 rfl ?_
  refine r_iconst (pc := 654) dX12_init_654 kc_iconst_0 ?_
  refine r_ldc2 (pc := 655) dX12_init_655 clX12_215 ?_
  obtain ⟨g240, h⟩ := gd h
  obtain ⟨g241, h⟩ := gd h
  refine r_lastore (pc := 658) dX12_init_658 g240 g241 ?_
  refine r_dup (pc := 659) dX12_init_659 rfl ?_
  refine r_iconst (pc := 660) dX12_init_660 kc_iconst_1 ?_
  refine r_ldc2 (pc := 661) dX12_init_661 clX12_215 ?_
  obtain ⟨g243, h⟩ := gd h
  refine r_lastore (pc := 664) dX12_init_664 g240 g243 ?_
  refine r_dup (pc := 665) dX12_init_665 rfl ?_
  refine r_iconst (pc := 666) dX12_init_666 kc_iconst_2 ?_
  refine r_ldc2 (pc := 667) dX12_init_667 clX12_215 ?_
  obtain ⟨g245, h⟩ := gd h
  refine r_lastore (pc := 670) dX12_init_670 g240 g245 ?_
  obtain ⟨g247, h⟩ := gd h
  refine r_putRF (pc := 671) dX12_init_671 fwX12_217 rfl rfl g247 ?_
  refine r_aload_n (pc := 674) dX12_init_674 rfl 0 rfl ?_
  refine r_iconst (pc := 675) dX12_init_675 kc_iconst_3 ?_
  refine r_newa (pc := 676) (t := 20) (ti := 0) (ty := .int) dX12_init_676 rfl (by decide) ac20 (by decide) (by decide) (Nat.sub_le_sub_right (mX12_init_b678 h).1 _) (Nat.sub_le_sub_right (mX12_init_b678 h).2 _) ?_
  refine r_sub [0] rfl ?_
  exact wX12_init_b678 h
def fX12_init_b628  (t : Nat) (σ : Shp) (I : Nat → Nat → Int32) (J : Nat → Nat → Int64) (D : Nat → Nat → UInt64) (R : Nat → Nat → Option Nat) (s0 : Nat) (s1 : Nat) : Option ((Shp) × (Nat → Nat → Int32) × (Nat → Nat → Int64) × (Nat → Nat → UInt64) × (Nat → Nat → Option Nat)) :=
  if kdx σ s1 = 21 then
  if ¬ ((0 : Int32) < 0 ∨ lnx σ s1 ≤ Int32.toNatClampNeg (0 : Int32)) then
  let J232 := u2 J s1 (Int32.toNatClampNeg (0 : Int32)) (20000 : Int64)
  if ¬ ((1 : Int32) < 0 ∨ lnx σ s1 ≤ Int32.toNatClampNeg (1 : Int32)) then
  let J234 := u2 J232 s1 (Int32.toNatClampNeg (1 : Int32)) (20000 : Int64)
  if ¬ ((2 : Int32) < 0 ∨ lnx σ s1 ≤ Int32.toNatClampNeg (2 : Int32)) then
  let J236 := u2 J234 s1 (Int32.toNatClampNeg (2 : Int32)) (20000 : Int64)
  if kdx σ s0 = 13 then
  let R238 := u2 R s0 97 (some s1)
  let σ239 := mkA σ 21 (Int32.toNatClampNeg (3 : Int32))
  fX12_init_b653 t σ239 I J236 D R238 t (nxx σ + 4)
  else none
  else none
  else none
  else none
  else none
theorem mX12_init_b628 {σ : Shp} {I : Nat → Nat → Int32} {J : Nat → Nat → Int64} {D : Nat → Nat → UInt64} {R : Nat → Nat → Option Nat} {t : Nat} {σ9 : Shp} {I9 : Nat → Nat → Int32} {J9 : Nat → Nat → Int64} {D9 : Nat → Nat → UInt64} {R9 : Nat → Nat → Option Nat} {s0 : Nat} {s1 : Nat} (h : fX12_init_b628 t σ I J D R s0 s1 = some (σ9, I9, J9, D9, R9)) : Lex σ σ9 := by
  unfold fX12_init_b628 at h
  replace h := (gd h).2
  replace h := (gd h).2
  replace h := (gd h).2
  replace h := (gd h).2
  replace h := (gd h).2
  exact Lex_mkA (mX12_init_b653 h)
theorem wX12_init_b628 {G : Gx} {l : Launch} {σ0 : Shp} {σ : Shp} {I : Nat → Nat → Int32} {J : Nat → Nat → Int64} {D : Nat → Nat → UInt64} {R : Nat → Nat → Option Nat} {t : Nat} {σ9 : Shp} {I9 : Nat → Nat → Int32} {J9 : Nat → Nat → Int64} {D9 : Nat → Nat → UInt64} {R9 : Nat → Nat → Option Nat} {s0 : Nat} {s1 : Nat} (h : fX12_init_b628 t σ I J D R s0 s1 = some (σ9, I9, J9, D9, R9)) : WX12_init G l σ0 (σ9, I9, J9, D9, R9) none (σ, I, J, D, R) 628 [(0, vR (some t))] [vR (some s1), vR (some s0)] := by
  unfold fX12_init_b628 at h
  refine r_dup (pc := 628) dX12_init_628 rfl ?_
  refine r_iconst (pc := 629) dX12_init_629 kc_iconst_0 ?_
  refine r_ldc2 (pc := 630) dX12_init_630 clX12_210 ?_
  obtain ⟨g230, h⟩ := gd h
  obtain ⟨g231, h⟩ := gd h
  refine r_lastore (pc := 633) dX12_init_633 g230 g231 ?_
  refine r_dup (pc := 634) dX12_init_634 rfl ?_
  refine r_iconst (pc := 635) dX12_init_635 kc_iconst_1 ?_
  refine r_ldc2 (pc := 636) dX12_init_636 clX12_210 ?_
  obtain ⟨g233, h⟩ := gd h
  refine r_lastore (pc := 639) dX12_init_639 g230 g233 ?_
  refine r_dup (pc := 640) dX12_init_640 rfl ?_
  refine r_iconst (pc := 641) dX12_init_641 kc_iconst_2 ?_
  refine r_ldc2 (pc := 642) dX12_init_642 clX12_210 ?_
  obtain ⟨g235, h⟩ := gd h
  refine r_lastore (pc := 645) dX12_init_645 g230 g235 ?_
  obtain ⟨g237, h⟩ := gd h
  refine r_putRF (pc := 646) dX12_init_646 fwX12_212 rfl rfl g237 ?_
  refine r_aload_n (pc := 649) dX12_init_649 rfl 0 rfl ?_
  refine r_iconst (pc := 650) dX12_init_650 kc_iconst_3 ?_
  refine r_newa (pc := 651) (t := 21) (ti := 1) (ty := .long) dX12_init_651 rfl (by decide) ac21 (by decide) (by decide) (Nat.sub_le_sub_right (mX12_init_b653 h).1 _) (Nat.sub_le_sub_right (mX12_init_b653 h).2 _) ?_
  refine r_sub [0] rfl ?_
  exact wX12_init_b653 h
def fX12_init_b597  (t : Nat) (σ : Shp) (I : Nat → Nat → Int32) (J : Nat → Nat → Int64) (D : Nat → Nat → UInt64) (R : Nat → Nat → Option Nat) (s0 : Nat) (s1 : Nat) : Option ((Shp) × (Nat → Nat → Int32) × (Nat → Nat → Int64) × (Nat → Nat → UInt64) × (Nat → Nat → Option Nat)) :=
  if kdx σ s1 = 20 then
  if ¬ ((0 : Int32) < 0 ∨ lnx σ s1 ≤ Int32.toNatClampNeg (0 : Int32)) then
  let I218 := u2 I s1 (Int32.toNatClampNeg (0 : Int32)) (0 : Int32)
  if ¬ ((1 : Int32) < 0 ∨ lnx σ s1 ≤ Int32.toNatClampNeg (1 : Int32)) then
  let I220 := u2 I218 s1 (Int32.toNatClampNeg (1 : Int32)) (10000 : Int32)
  if ¬ ((2 : Int32) < 0 ∨ lnx σ s1 ≤ Int32.toNatClampNeg (2 : Int32)) then
  let I222 := u2 I220 s1 (Int32.toNatClampNeg (2 : Int32)) (5000 : Int32)
  if ¬ ((3 : Int32) < 0 ∨ lnx σ s1 ≤ Int32.toNatClampNeg (3 : Int32)) then
  let I224 := u2 I222 s1 (Int32.toNatClampNeg (3 : Int32)) (0 : Int32)
  if ¬ ((4 : Int32) < 0 ∨ lnx σ s1 ≤ Int32.toNatClampNeg (4 : Int32)) then
  let I226 := u2 I224 s1 (Int32.toNatClampNeg (4 : Int32)) (0 : Int32)
  if kdx σ s0 = 13 then
  let R228 := u2 R s0 96 (some s1)
  let σ229 := mkA σ 21 (Int32.toNatClampNeg (3 : Int32))
  fX12_init_b628 t σ229 I226 J D R228 t (nxx σ + 4)
  else none
  else none
  else none
  else none
  else none
  else none
  else none
theorem mX12_init_b597 {σ : Shp} {I : Nat → Nat → Int32} {J : Nat → Nat → Int64} {D : Nat → Nat → UInt64} {R : Nat → Nat → Option Nat} {t : Nat} {σ9 : Shp} {I9 : Nat → Nat → Int32} {J9 : Nat → Nat → Int64} {D9 : Nat → Nat → UInt64} {R9 : Nat → Nat → Option Nat} {s0 : Nat} {s1 : Nat} (h : fX12_init_b597 t σ I J D R s0 s1 = some (σ9, I9, J9, D9, R9)) : Lex σ σ9 := by
  unfold fX12_init_b597 at h
  replace h := (gd h).2
  replace h := (gd h).2
  replace h := (gd h).2
  replace h := (gd h).2
  replace h := (gd h).2
  replace h := (gd h).2
  replace h := (gd h).2
  exact Lex_mkA (mX12_init_b628 h)
theorem wX12_init_b597 {G : Gx} {l : Launch} {σ0 : Shp} {σ : Shp} {I : Nat → Nat → Int32} {J : Nat → Nat → Int64} {D : Nat → Nat → UInt64} {R : Nat → Nat → Option Nat} {t : Nat} {σ9 : Shp} {I9 : Nat → Nat → Int32} {J9 : Nat → Nat → Int64} {D9 : Nat → Nat → UInt64} {R9 : Nat → Nat → Option Nat} {s0 : Nat} {s1 : Nat} (h : fX12_init_b597 t σ I J D R s0 s1 = some (σ9, I9, J9, D9, R9)) : WX12_init G l σ0 (σ9, I9, J9, D9, R9) none (σ, I, J, D, R) 597 [(0, vR (some t))] [vR (some s1), vR (some s0)] := by
  unfold fX12_init_b597 at h
  refine r_dup (pc := 597) dX12_init_597 rfl ?_
  refine r_iconst (pc := 598) dX12_init_598 kc_iconst_0 ?_
  refine r_iconst (pc := 599) dX12_init_599 kc_iconst_0 ?_
  obtain ⟨g216, h⟩ := gd h
  obtain ⟨g217, h⟩ := gd h
  refine r_iastore (pc := 600) dX12_init_600 g216 g217 ?_
  refine r_dup (pc := 601) dX12_init_601 rfl ?_
  refine r_iconst (pc := 602) dX12_init_602 kc_iconst_1 ?_
  refine r_sipush (pc := 603) dX12_init_603 kc_sipush_10000 ?_
  obtain ⟨g219, h⟩ := gd h
  refine r_iastore (pc := 606) dX12_init_606 g216 g219 ?_
  refine r_dup (pc := 607) dX12_init_607 rfl ?_
  refine r_iconst (pc := 608) dX12_init_608 kc_iconst_2 ?_
  refine r_sipush (pc := 609) dX12_init_609 kc_sipush_5000 ?_
  obtain ⟨g221, h⟩ := gd h
  refine r_iastore (pc := 612) dX12_init_612 g216 g221 ?_
  refine r_dup (pc := 613) dX12_init_613 rfl ?_
  refine r_iconst (pc := 614) dX12_init_614 kc_iconst_3 ?_
  refine r_iconst (pc := 615) dX12_init_615 kc_iconst_0 ?_
  obtain ⟨g223, h⟩ := gd h
  refine r_iastore (pc := 616) dX12_init_616 g216 g223 ?_
  refine r_dup (pc := 617) dX12_init_617 rfl ?_
  refine r_iconst (pc := 618) dX12_init_618 kc_iconst_4 ?_
  refine r_iconst (pc := 619) dX12_init_619 kc_iconst_0 ?_
  obtain ⟨g225, h⟩ := gd h
  refine r_iastore (pc := 620) dX12_init_620 g216 g225 ?_
  obtain ⟨g227, h⟩ := gd h
  refine r_putRF (pc := 621) dX12_init_621 fwX12_207 rfl rfl g227 ?_
  refine r_aload_n (pc := 624) dX12_init_624 rfl 0 rfl ?_
  refine r_iconst (pc := 625) dX12_init_625 kc_iconst_3 ?_
  refine r_newa (pc := 626) (t := 21) (ti := 1) (ty := .long) dX12_init_626 rfl (by decide) ac21 (by decide) (by decide) (Nat.sub_le_sub_right (mX12_init_b628 h).1 _) (Nat.sub_le_sub_right (mX12_init_b628 h).2 _) ?_
  refine r_sub [0] rfl ?_
  exact wX12_init_b628 h
def fX12_init_b572  (t : Nat) (σ : Shp) (I : Nat → Nat → Int32) (J : Nat → Nat → Int64) (D : Nat → Nat → UInt64) (R : Nat → Nat → Option Nat) (s0 : Nat) (s1 : Nat) : Option ((Shp) × (Nat → Nat → Int32) × (Nat → Nat → Int64) × (Nat → Nat → UInt64) × (Nat → Nat → Option Nat)) :=
  if kdx σ s1 = 21 then
  if ¬ ((0 : Int32) < 0 ∨ lnx σ s1 ≤ Int32.toNatClampNeg (0 : Int32)) then
  let J208 := u2 J s1 (Int32.toNatClampNeg (0 : Int32)) (9221120237041090560 : Int64)
  if ¬ ((1 : Int32) < 0 ∨ lnx σ s1 ≤ Int32.toNatClampNeg (1 : Int32)) then
  let J210 := u2 J208 s1 (Int32.toNatClampNeg (1 : Int32)) (9221120237041090560 : Int64)
  if ¬ ((2 : Int32) < 0 ∨ lnx σ s1 ≤ Int32.toNatClampNeg (2 : Int32)) then
  let J212 := u2 J210 s1 (Int32.toNatClampNeg (2 : Int32)) (9221120237041090560 : Int64)
  if kdx σ s0 = 13 then
  let R214 := u2 R s0 95 (some s1)
  let σ215 := mkA σ 20 (Int32.toNatClampNeg (5 : Int32))
  fX12_init_b597 t σ215 I J212 D R214 t (nxx σ + 4)
  else none
  else none
  else none
  else none
  else none
theorem mX12_init_b572 {σ : Shp} {I : Nat → Nat → Int32} {J : Nat → Nat → Int64} {D : Nat → Nat → UInt64} {R : Nat → Nat → Option Nat} {t : Nat} {σ9 : Shp} {I9 : Nat → Nat → Int32} {J9 : Nat → Nat → Int64} {D9 : Nat → Nat → UInt64} {R9 : Nat → Nat → Option Nat} {s0 : Nat} {s1 : Nat} (h : fX12_init_b572 t σ I J D R s0 s1 = some (σ9, I9, J9, D9, R9)) : Lex σ σ9 := by
  unfold fX12_init_b572 at h
  replace h := (gd h).2
  replace h := (gd h).2
  replace h := (gd h).2
  replace h := (gd h).2
  replace h := (gd h).2
  exact Lex_mkA (mX12_init_b597 h)
theorem wX12_init_b572 {G : Gx} {l : Launch} {σ0 : Shp} {σ : Shp} {I : Nat → Nat → Int32} {J : Nat → Nat → Int64} {D : Nat → Nat → UInt64} {R : Nat → Nat → Option Nat} {t : Nat} {σ9 : Shp} {I9 : Nat → Nat → Int32} {J9 : Nat → Nat → Int64} {D9 : Nat → Nat → UInt64} {R9 : Nat → Nat → Option Nat} {s0 : Nat} {s1 : Nat} (h : fX12_init_b572 t σ I J D R s0 s1 = some (σ9, I9, J9, D9, R9)) : WX12_init G l σ0 (σ9, I9, J9, D9, R9) none (σ, I, J, D, R) 572 [(0, vR (some t))] [vR (some s1), vR (some s0)] := by
  unfold fX12_init_b572 at h
  refine r_dup (pc := 572) dX12_init_572 rfl ?_
  refine r_iconst (pc := 573) dX12_init_573 kc_iconst_0 ?_
  refine r_ldc2 (pc := 574) dX12_init_574 clX12_172 ?_
  obtain ⟨g206, h⟩ := gd h
  obtain ⟨g207, h⟩ := gd h
  refine r_lastore (pc := 577) dX12_init_577 g206 g207 ?_
  refine r_dup (pc := 578) dX12_init_578 rfl ?_
  refine r_iconst (pc := 579) dX12_init_579 kc_iconst_1 ?_
  refine r_ldc2 (pc := 580) dX12_init_580 clX12_172 ?_
  obtain ⟨g209, h⟩ := gd h
  refine r_lastore (pc := 583) dX12_init_583 g206 g209 ?_
  refine r_dup (pc := 584) dX12_init_584 rfl ?_
  refine r_iconst (pc := 585) dX12_init_585 kc_iconst_2 ?_
  refine r_ldc2 (pc := 586) dX12_init_586 clX12_172 ?_
  obtain ⟨g211, h⟩ := gd h
  refine r_lastore (pc := 589) dX12_init_589 g206 g211 ?_
  obtain ⟨g213, h⟩ := gd h
  refine r_putRF (pc := 590) dX12_init_590 fwX12_204 rfl rfl g213 ?_
  refine r_aload_n (pc := 593) dX12_init_593 rfl 0 rfl ?_
  refine r_iconst (pc := 594) dX12_init_594 kc_iconst_5 ?_
  refine r_newa (pc := 595) (t := 20) (ti := 0) (ty := .int) dX12_init_595 rfl (by decide) ac20 (by decide) (by decide) (Nat.sub_le_sub_right (mX12_init_b597 h).1 _) (Nat.sub_le_sub_right (mX12_init_b597 h).2 _) ?_
  refine r_sub [0] rfl ?_
  exact wX12_init_b597 h
def fX12_init_b558  (t : Nat) (σ : Shp) (I : Nat → Nat → Int32) (J : Nat → Nat → Int64) (D : Nat → Nat → UInt64) (R : Nat → Nat → Option Nat) (s0 : Nat) (s1 : Nat) : Option ((Shp) × (Nat → Nat → Int32) × (Nat → Nat → Int64) × (Nat → Nat → UInt64) × (Nat → Nat → Option Nat)) :=
  if kdx σ s0 = 13 then
  let R202 := u2 R s0 93 (some s1)
  if kdx σ t = 13 then
  let D204 := u2 D t 94 (4611686018427387904 : UInt64)
  let σ205 := mkA σ 21 (Int32.toNatClampNeg (3 : Int32))
  fX12_init_b572 t σ205 I J D204 R202 t (nxx σ + 4)
  else none
  else none
theorem mX12_init_b558 {σ : Shp} {I : Nat → Nat → Int32} {J : Nat → Nat → Int64} {D : Nat → Nat → UInt64} {R : Nat → Nat → Option Nat} {t : Nat} {σ9 : Shp} {I9 : Nat → Nat → Int32} {J9 : Nat → Nat → Int64} {D9 : Nat → Nat → UInt64} {R9 : Nat → Nat → Option Nat} {s0 : Nat} {s1 : Nat} (h : fX12_init_b558 t σ I J D R s0 s1 = some (σ9, I9, J9, D9, R9)) : Lex σ σ9 := by
  unfold fX12_init_b558 at h
  replace h := (gd h).2
  replace h := (gd h).2
  exact Lex_mkA (mX12_init_b572 h)
theorem wX12_init_b558 {G : Gx} {l : Launch} {σ0 : Shp} {σ : Shp} {I : Nat → Nat → Int32} {J : Nat → Nat → Int64} {D : Nat → Nat → UInt64} {R : Nat → Nat → Option Nat} {t : Nat} {σ9 : Shp} {I9 : Nat → Nat → Int32} {J9 : Nat → Nat → Int64} {D9 : Nat → Nat → UInt64} {R9 : Nat → Nat → Option Nat} {s0 : Nat} {s1 : Nat} (h : fX12_init_b558 t σ I J D R s0 s1 = some (σ9, I9, J9, D9, R9)) : WX12_init G l σ0 (σ9, I9, J9, D9, R9) none (σ, I, J, D, R) 558 [(0, vR (some t))] [vR (some s1), vR (some s0)] := by
  unfold fX12_init_b558 at h
  obtain ⟨g201, h⟩ := gd h
  refine r_putRF (pc := 558) dX12_init_558 fwX12_195 rfl rfl g201 ?_
  refine r_aload_n (pc := 561) dX12_init_561 rfl 0 rfl ?_
  refine r_ldc2d (pc := 562) dX12_init_562 cdX12_198 ?_
  obtain ⟨g203, h⟩ := gd h
  refine r_putD (pc := 565) dX12_init_565 fwX12_200 rfl g203 ?_
  refine r_aload_n (pc := 568) dX12_init_568 rfl 0 rfl ?_
  refine r_iconst (pc := 569) dX12_init_569 kc_iconst_3 ?_
  refine r_newa (pc := 570) (t := 21) (ti := 1) (ty := .long) dX12_init_570 rfl (by decide) ac21 (by decide) (by decide) (Nat.sub_le_sub_right (mX12_init_b572 h).1 _) (Nat.sub_le_sub_right (mX12_init_b572 h).2 _) ?_
  refine r_sub [0] rfl ?_
  exact wX12_init_b572 h
def fX12_init_b550  (t : Nat) (σ : Shp) (I : Nat → Nat → Int32) (J : Nat → Nat → Int64) (D : Nat → Nat → UInt64) (R : Nat → Nat → Option Nat) (s0 : Nat) (s1 : Nat) : Option ((Shp) × (Nat → Nat → Int32) × (Nat → Nat → Int64) × (Nat → Nat → UInt64) × (Nat → Nat → Option Nat)) :=
  if kdx σ s0 = 13 then
  let R199 := u2 R s0 92 (some s1)
  let σ200 := mkA σ 24 (Int32.toNatClampNeg (9 : Int32))
  fX12_init_b558 t σ200 I J D R199 t (nxx σ + 4)
  else none
theorem mX12_init_b550 {σ : Shp} {I : Nat → Nat → Int32} {J : Nat → Nat → Int64} {D : Nat → Nat → UInt64} {R : Nat → Nat → Option Nat} {t : Nat} {σ9 : Shp} {I9 : Nat → Nat → Int32} {J9 : Nat → Nat → Int64} {D9 : Nat → Nat → UInt64} {R9 : Nat → Nat → Option Nat} {s0 : Nat} {s1 : Nat} (h : fX12_init_b550 t σ I J D R s0 s1 = some (σ9, I9, J9, D9, R9)) : Lex σ σ9 := by
  unfold fX12_init_b550 at h
  replace h := (gd h).2
  exact Lex_mkA (mX12_init_b558 h)
theorem wX12_init_b550 {G : Gx} {l : Launch} {σ0 : Shp} {σ : Shp} {I : Nat → Nat → Int32} {J : Nat → Nat → Int64} {D : Nat → Nat → UInt64} {R : Nat → Nat → Option Nat} {t : Nat} {σ9 : Shp} {I9 : Nat → Nat → Int32} {J9 : Nat → Nat → Int64} {D9 : Nat → Nat → UInt64} {R9 : Nat → Nat → Option Nat} {s0 : Nat} {s1 : Nat} (h : fX12_init_b550 t σ I J D R s0 s1 = some (σ9, I9, J9, D9, R9)) : WX12_init G l σ0 (σ9, I9, J9, D9, R9) none (σ, I, J, D, R) 550 [(0, vR (some t))] [vR (some s1), vR (some s0)] := by
  unfold fX12_init_b550 at h
  obtain ⟨g198, h⟩ := gd h
  refine r_putRF (pc := 550) dX12_init_550 fwX12_192 rfl rfl g198 ?_
  refine r_aload_n (pc := 553) dX12_init_553 rfl 0 rfl ?_
  refine r_bipush (pc := 554) dX12_init_554 kc_bipush_9 ?_
  refine r_newa (pc := 556) (t := 24) (ti := 4) (ty := .boolean) dX12_init_556 rfl (by decide) ac24 (by decide) (by decide) (Nat.sub_le_sub_right (mX12_init_b558 h).1 _) (Nat.sub_le_sub_right (mX12_init_b558 h).2 _) ?_
  refine r_sub [0] rfl ?_
  exact wX12_init_b558 h
def fX12_init_b542  (t : Nat) (σ : Shp) (I : Nat → Nat → Int32) (J : Nat → Nat → Int64) (D : Nat → Nat → UInt64) (R : Nat → Nat → Option Nat) (s0 : Nat) (s1 : Nat) : Option ((Shp) × (Nat → Nat → Int32) × (Nat → Nat → Int64) × (Nat → Nat → UInt64) × (Nat → Nat → Option Nat)) :=
  if kdx σ s0 = 13 then
  let R196 := u2 R s0 91 (some s1)
  let σ197 := mkA σ 20 (Int32.toNatClampNeg (9 : Int32))
  fX12_init_b550 t σ197 I J D R196 t (nxx σ + 4)
  else none
theorem mX12_init_b542 {σ : Shp} {I : Nat → Nat → Int32} {J : Nat → Nat → Int64} {D : Nat → Nat → UInt64} {R : Nat → Nat → Option Nat} {t : Nat} {σ9 : Shp} {I9 : Nat → Nat → Int32} {J9 : Nat → Nat → Int64} {D9 : Nat → Nat → UInt64} {R9 : Nat → Nat → Option Nat} {s0 : Nat} {s1 : Nat} (h : fX12_init_b542 t σ I J D R s0 s1 = some (σ9, I9, J9, D9, R9)) : Lex σ σ9 := by
  unfold fX12_init_b542 at h
  replace h := (gd h).2
  exact Lex_mkA (mX12_init_b550 h)
theorem wX12_init_b542 {G : Gx} {l : Launch} {σ0 : Shp} {σ : Shp} {I : Nat → Nat → Int32} {J : Nat → Nat → Int64} {D : Nat → Nat → UInt64} {R : Nat → Nat → Option Nat} {t : Nat} {σ9 : Shp} {I9 : Nat → Nat → Int32} {J9 : Nat → Nat → Int64} {D9 : Nat → Nat → UInt64} {R9 : Nat → Nat → Option Nat} {s0 : Nat} {s1 : Nat} (h : fX12_init_b542 t σ I J D R s0 s1 = some (σ9, I9, J9, D9, R9)) : WX12_init G l σ0 (σ9, I9, J9, D9, R9) none (σ, I, J, D, R) 542 [(0, vR (some t))] [vR (some s1), vR (some s0)] := by
  unfold fX12_init_b542 at h
  obtain ⟨g195, h⟩ := gd h
  refine r_putRF (pc := 542) dX12_init_542 fwX12_189 rfl rfl g195 ?_
  refine r_aload_n (pc := 545) dX12_init_545 rfl 0 rfl ?_
  refine r_bipush (pc := 546) dX12_init_546 kc_bipush_9 ?_
  refine r_newa (pc := 548) (t := 20) (ti := 0) (ty := .int) dX12_init_548 rfl (by decide) ac20 (by decide) (by decide) (Nat.sub_le_sub_right (mX12_init_b550 h).1 _) (Nat.sub_le_sub_right (mX12_init_b550 h).2 _) ?_
  refine r_sub [0] rfl ?_
  exact wX12_init_b550 h
def fX12_init_b534  (t : Nat) (σ : Shp) (I : Nat → Nat → Int32) (J : Nat → Nat → Int64) (D : Nat → Nat → UInt64) (R : Nat → Nat → Option Nat) (s0 : Nat) (s1 : Nat) : Option ((Shp) × (Nat → Nat → Int32) × (Nat → Nat → Int64) × (Nat → Nat → UInt64) × (Nat → Nat → Option Nat)) :=
  if kdx σ s0 = 13 then
  let R193 := u2 R s0 90 (some s1)
  let σ194 := mkA σ 20 (Int32.toNatClampNeg (9 : Int32))
  fX12_init_b542 t σ194 I J D R193 t (nxx σ + 4)
  else none
theorem mX12_init_b534 {σ : Shp} {I : Nat → Nat → Int32} {J : Nat → Nat → Int64} {D : Nat → Nat → UInt64} {R : Nat → Nat → Option Nat} {t : Nat} {σ9 : Shp} {I9 : Nat → Nat → Int32} {J9 : Nat → Nat → Int64} {D9 : Nat → Nat → UInt64} {R9 : Nat → Nat → Option Nat} {s0 : Nat} {s1 : Nat} (h : fX12_init_b534 t σ I J D R s0 s1 = some (σ9, I9, J9, D9, R9)) : Lex σ σ9 := by
  unfold fX12_init_b534 at h
  replace h := (gd h).2
  exact Lex_mkA (mX12_init_b542 h)
theorem wX12_init_b534 {G : Gx} {l : Launch} {σ0 : Shp} {σ : Shp} {I : Nat → Nat → Int32} {J : Nat → Nat → Int64} {D : Nat → Nat → UInt64} {R : Nat → Nat → Option Nat} {t : Nat} {σ9 : Shp} {I9 : Nat → Nat → Int32} {J9 : Nat → Nat → Int64} {D9 : Nat → Nat → UInt64} {R9 : Nat → Nat → Option Nat} {s0 : Nat} {s1 : Nat} (h : fX12_init_b534 t σ I J D R s0 s1 = some (σ9, I9, J9, D9, R9)) : WX12_init G l σ0 (σ9, I9, J9, D9, R9) none (σ, I, J, D, R) 534 [(0, vR (some t))] [vR (some s1), vR (some s0)] := by
  unfold fX12_init_b534 at h
  obtain ⟨g192, h⟩ := gd h
  refine r_putRF (pc := 534) dX12_init_534 fwX12_186 rfl rfl g192 ?_
  refine r_aload_n (pc := 537) dX12_init_537 rfl 0 rfl ?_
  refine r_bipush (pc := 538) dX12_init_538 kc_bipush_9 ?_
  refine r_newa (pc := 540) (t := 20) (ti := 0) (ty := .int) dX12_init_540 rfl (by decide) ac20 (by decide) (by decide) (Nat.sub_le_sub_right (mX12_init_b542 h).1 _) (Nat.sub_le_sub_right (mX12_init_b542 h).2 _) ?_
  refine r_sub [0] rfl ?_
  exact wX12_init_b542 h
def fX12_init_b526  (t : Nat) (σ : Shp) (I : Nat → Nat → Int32) (J : Nat → Nat → Int64) (D : Nat → Nat → UInt64) (R : Nat → Nat → Option Nat) (s0 : Nat) (s1 : Nat) : Option ((Shp) × (Nat → Nat → Int32) × (Nat → Nat → Int64) × (Nat → Nat → UInt64) × (Nat → Nat → Option Nat)) :=
  if kdx σ s0 = 13 then
  let R190 := u2 R s0 89 (some s1)
  let σ191 := mkA σ 20 (Int32.toNatClampNeg (9 : Int32))
  fX12_init_b534 t σ191 I J D R190 t (nxx σ + 4)
  else none
theorem mX12_init_b526 {σ : Shp} {I : Nat → Nat → Int32} {J : Nat → Nat → Int64} {D : Nat → Nat → UInt64} {R : Nat → Nat → Option Nat} {t : Nat} {σ9 : Shp} {I9 : Nat → Nat → Int32} {J9 : Nat → Nat → Int64} {D9 : Nat → Nat → UInt64} {R9 : Nat → Nat → Option Nat} {s0 : Nat} {s1 : Nat} (h : fX12_init_b526 t σ I J D R s0 s1 = some (σ9, I9, J9, D9, R9)) : Lex σ σ9 := by
  unfold fX12_init_b526 at h
  replace h := (gd h).2
  exact Lex_mkA (mX12_init_b534 h)
theorem wX12_init_b526 {G : Gx} {l : Launch} {σ0 : Shp} {σ : Shp} {I : Nat → Nat → Int32} {J : Nat → Nat → Int64} {D : Nat → Nat → UInt64} {R : Nat → Nat → Option Nat} {t : Nat} {σ9 : Shp} {I9 : Nat → Nat → Int32} {J9 : Nat → Nat → Int64} {D9 : Nat → Nat → UInt64} {R9 : Nat → Nat → Option Nat} {s0 : Nat} {s1 : Nat} (h : fX12_init_b526 t σ I J D R s0 s1 = some (σ9, I9, J9, D9, R9)) : WX12_init G l σ0 (σ9, I9, J9, D9, R9) none (σ, I, J, D, R) 526 [(0, vR (some t))] [vR (some s1), vR (some s0)] := by
  unfold fX12_init_b526 at h
  obtain ⟨g189, h⟩ := gd h
  refine r_putRF (pc := 526) dX12_init_526 fwX12_183 rfl rfl g189 ?_
  refine r_aload_n (pc := 529) dX12_init_529 rfl 0 rfl ?_
  refine r_bipush (pc := 530) dX12_init_530 kc_bipush_9 ?_
  refine r_newa (pc := 532) (t := 20) (ti := 0) (ty := .int) dX12_init_532 rfl (by decide) ac20 (by decide) (by decide) (Nat.sub_le_sub_right (mX12_init_b534 h).1 _) (Nat.sub_le_sub_right (mX12_init_b534 h).2 _) ?_
  refine r_sub [0] rfl ?_
  exact wX12_init_b534 h
def fX12_init_b518  (t : Nat) (σ : Shp) (I : Nat → Nat → Int32) (J : Nat → Nat → Int64) (D : Nat → Nat → UInt64) (R : Nat → Nat → Option Nat) (s0 : Nat) (s1 : Nat) : Option ((Shp) × (Nat → Nat → Int32) × (Nat → Nat → Int64) × (Nat → Nat → UInt64) × (Nat → Nat → Option Nat)) :=
  if kdx σ s0 = 13 then
  let R187 := u2 R s0 88 (some s1)
  let σ188 := mkA σ 20 (Int32.toNatClampNeg (9 : Int32))
  fX12_init_b526 t σ188 I J D R187 t (nxx σ + 4)
  else none
theorem mX12_init_b518 {σ : Shp} {I : Nat → Nat → Int32} {J : Nat → Nat → Int64} {D : Nat → Nat → UInt64} {R : Nat → Nat → Option Nat} {t : Nat} {σ9 : Shp} {I9 : Nat → Nat → Int32} {J9 : Nat → Nat → Int64} {D9 : Nat → Nat → UInt64} {R9 : Nat → Nat → Option Nat} {s0 : Nat} {s1 : Nat} (h : fX12_init_b518 t σ I J D R s0 s1 = some (σ9, I9, J9, D9, R9)) : Lex σ σ9 := by
  unfold fX12_init_b518 at h
  replace h := (gd h).2
  exact Lex_mkA (mX12_init_b526 h)
theorem wX12_init_b518 {G : Gx} {l : Launch} {σ0 : Shp} {σ : Shp} {I : Nat → Nat → Int32} {J : Nat → Nat → Int64} {D : Nat → Nat → UInt64} {R : Nat → Nat → Option Nat} {t : Nat} {σ9 : Shp} {I9 : Nat → Nat → Int32} {J9 : Nat → Nat → Int64} {D9 : Nat → Nat → UInt64} {R9 : Nat → Nat → Option Nat} {s0 : Nat} {s1 : Nat} (h : fX12_init_b518 t σ I J D R s0 s1 = some (σ9, I9, J9, D9, R9)) : WX12_init G l σ0 (σ9, I9, J9, D9, R9) none (σ, I, J, D, R) 518 [(0, vR (some t))] [vR (some s1), vR (some s0)] := by
  unfold fX12_init_b518 at h
  obtain ⟨g186, h⟩ := gd h
  refine r_putRF (pc := 518) dX12_init_518 fwX12_180 rfl rfl g186 ?_
  refine r_aload_n (pc := 521) dX12_init_521 rfl 0 rfl ?_
  refine r_bipush (pc := 522) dX12_init_522 kc_bipush_9 ?_
  refine r_newa (pc := 524) (t := 20) (ti := 0) (ty := .int) dX12_init_524 rfl (by decide) ac20 (by decide) (by decide) (Nat.sub_le_sub_right (mX12_init_b526 h).1 _) (Nat.sub_le_sub_right (mX12_init_b526 h).2 _) ?_
  refine r_sub [0] rfl ?_
  exact wX12_init_b526 h
def fX12_init_b510  (t : Nat) (σ : Shp) (I : Nat → Nat → Int32) (J : Nat → Nat → Int64) (D : Nat → Nat → UInt64) (R : Nat → Nat → Option Nat) (s0 : Nat) (s1 : Nat) : Option ((Shp) × (Nat → Nat → Int32) × (Nat → Nat → Int64) × (Nat → Nat → UInt64) × (Nat → Nat → Option Nat)) :=
  if kdx σ s0 = 13 then
  let R184 := u2 R s0 87 (some s1)
  let σ185 := mkA σ 24 (Int32.toNatClampNeg (9 : Int32))
  fX12_init_b518 t σ185 I J D R184 t (nxx σ + 4)
  else none
theorem mX12_init_b510 {σ : Shp} {I : Nat → Nat → Int32} {J : Nat → Nat → Int64} {D : Nat → Nat → UInt64} {R : Nat → Nat → Option Nat} {t : Nat} {σ9 : Shp} {I9 : Nat → Nat → Int32} {J9 : Nat → Nat → Int64} {D9 : Nat → Nat → UInt64} {R9 : Nat → Nat → Option Nat} {s0 : Nat} {s1 : Nat} (h : fX12_init_b510 t σ I J D R s0 s1 = some (σ9, I9, J9, D9, R9)) : Lex σ σ9 := by
  unfold fX12_init_b510 at h
  replace h := (gd h).2
  exact Lex_mkA (mX12_init_b518 h)
theorem wX12_init_b510 {G : Gx} {l : Launch} {σ0 : Shp} {σ : Shp} {I : Nat → Nat → Int32} {J : Nat → Nat → Int64} {D : Nat → Nat → UInt64} {R : Nat → Nat → Option Nat} {t : Nat} {σ9 : Shp} {I9 : Nat → Nat → Int32} {J9 : Nat → Nat → Int64} {D9 : Nat → Nat → UInt64} {R9 : Nat → Nat → Option Nat} {s0 : Nat} {s1 : Nat} (h : fX12_init_b510 t σ I J D R s0 s1 = some (σ9, I9, J9, D9, R9)) : WX12_init G l σ0 (σ9, I9, J9, D9, R9) none (σ, I, J, D, R) 510 [(0, vR (some t))] [vR (some s1), vR (some s0)] := by
  unfold fX12_init_b510 at h
  obtain ⟨g183, h⟩ := gd h
  refine r_putRF (pc := 510) dX12_init_510 fwX12_177 rfl rfl g183 ?_
  refine r_aload_n (pc := 513) dX12_init_513 rfl 0 rfl ?_
  refine r_bipush (pc := 514) dX12_init_514 kc_bipush_9 ?_
  refine r_newa (pc := 516) (t := 24) (ti := 4) (ty := .boolean) dX12_init_516 rfl (by decide) ac24 (by decide) (by decide) (Nat.sub_le_sub_right (mX12_init_b518 h).1 _) (Nat.sub_le_sub_right (mX12_init_b518 h).2 _) ?_
  refine r_sub [0] rfl ?_
  exact wX12_init_b518 h
def fX12_init_b445  (t : Nat) (σ : Shp) (I : Nat → Nat → Int32) (J : Nat → Nat → Int64) (D : Nat → Nat → UInt64) (R : Nat → Nat → Option Nat) (s0 : Nat) (s1 : Nat) : Option ((Shp) × (Nat → Nat → Int32) × (Nat → Nat → Int64) × (Nat → Nat → UInt64) × (Nat → Nat → Option Nat)) :=
  if kdx σ s1 = 21 then
  if ¬ ((0 : Int32) < 0 ∨ lnx σ s1 ≤ Int32.toNatClampNeg (0 : Int32)) then
  let J163 := u2 J s1 (Int32.toNatClampNeg (0 : Int32)) (9221120237041090560 : Int64)
  if ¬ ((1 : Int32) < 0 ∨ lnx σ s1 ≤ Int32.toNatClampNeg (1 : Int32)) then
  let J165 := u2 J163 s1 (Int32.toNatClampNeg (1 : Int32)) (9221120237041090560 : Int64)
  if ¬ ((2 : Int32) < 0 ∨ lnx σ s1 ≤ Int32.toNatClampNeg (2 : Int32)) then
  let J167 := u2 J165 s1 (Int32.toNatClampNeg (2 : Int32)) (9221120237041090560 : Int64)
  if ¬ ((3 : Int32) < 0 ∨ lnx σ s1 ≤ Int32.toNatClampNeg (3 : Int32)) then
  let J169 := u2 J167 s1 (Int32.toNatClampNeg (3 : Int32)) (9221120237041090560 : Int64)
  if ¬ ((4 : Int32) < 0 ∨ lnx σ s1 ≤ Int32.toNatClampNeg (4 : Int32)) then
  let J171 := u2 J169 s1 (Int32.toNatClampNeg (4 : Int32)) (9221120237041090560 : Int64)
  if ¬ ((5 : Int32) < 0 ∨ lnx σ s1 ≤ Int32.toNatClampNeg (5 : Int32)) then
  let J173 := u2 J171 s1 (Int32.toNatClampNeg (5 : Int32)) (9221120237041090560 : Int64)
  if ¬ ((6 : Int32) < 0 ∨ lnx σ s1 ≤ Int32.toNatClampNeg (6 : Int32)) then
  let J175 := u2 J173 s1 (Int32.toNatClampNeg (6 : Int32)) (9221120237041090560 : Int64)
  if ¬ ((7 : Int32) < 0 ∨ lnx σ s1 ≤ Int32.toNatClampNeg (7 : Int32)) then
  let J177 := u2 J175 s1 (Int32.toNatClampNeg (7 : Int32)) (9221120237041090560 : Int64)
  if ¬ ((8 : Int32) < 0 ∨ lnx σ s1 ≤ Int32.toNatClampNeg (8 : Int32)) then
  let J179 := u2 J177 s1 (Int32.toNatClampNeg (8 : Int32)) (9221120237041090560 : Int64)
  if kdx σ s0 = 13 then
  let R181 := u2 R s0 86 (some s1)
  let σ182 := mkA σ 21 (Int32.toNatClampNeg (9 : Int32))
  fX12_init_b510 t σ182 I J179 D R181 t (nxx σ + 4)
  else none
  else none
  else none
  else none
  else none
  else none
  else none
  else none
  else none
  else none
  else none
theorem mX12_init_b445 {σ : Shp} {I : Nat → Nat → Int32} {J : Nat → Nat → Int64} {D : Nat → Nat → UInt64} {R : Nat → Nat → Option Nat} {t : Nat} {σ9 : Shp} {I9 : Nat → Nat → Int32} {J9 : Nat → Nat → Int64} {D9 : Nat → Nat → UInt64} {R9 : Nat → Nat → Option Nat} {s0 : Nat} {s1 : Nat} (h : fX12_init_b445 t σ I J D R s0 s1 = some (σ9, I9, J9, D9, R9)) : Lex σ σ9 := by
  unfold fX12_init_b445 at h
  replace h := (gd h).2
  replace h := (gd h).2
  replace h := (gd h).2
  replace h := (gd h).2
  replace h := (gd h).2
  replace h := (gd h).2
  replace h := (gd h).2
  replace h := (gd h).2
  replace h := (gd h).2
  replace h := (gd h).2
  replace h := (gd h).2
  exact Lex_mkA (mX12_init_b510 h)
theorem wX12_init_b445 {G : Gx} {l : Launch} {σ0 : Shp} {σ : Shp} {I : Nat → Nat → Int32} {J : Nat → Nat → Int64} {D : Nat → Nat → UInt64} {R : Nat → Nat → Option Nat} {t : Nat} {σ9 : Shp} {I9 : Nat → Nat → Int32} {J9 : Nat → Nat → Int64} {D9 : Nat → Nat → UInt64} {R9 : Nat → Nat → Option Nat} {s0 : Nat} {s1 : Nat} (h : fX12_init_b445 t σ I J D R s0 s1 = some (σ9, I9, J9, D9, R9)) : WX12_init G l σ0 (σ9, I9, J9, D9, R9) none (σ, I, J, D, R) 445 [(0, vR (some t))] [vR (some s1), vR (some s0)] := by
  unfold fX12_init_b445 at h
  refine r_dup (pc := 445) dX12_init_445 rfl ?_
  refine r_iconst (pc := 446) dX12_init_446 kc_iconst_0 ?_
  refine r_ldc2 (pc := 447) dX12_init_447 clX12_172 ?_
  obtain ⟨g161, h⟩ := gd h
  obtain ⟨g162, h⟩ := gd h
  refine r_lastore (pc := 450) dX12_init_450 g161 g162 ?_
  refine r_dup (pc := 451) dX12_init_451 rfl ?_
  refine r_iconst (pc := 452) dX12_init_452 kc_iconst_1 ?_
  refine r_ldc2 (pc := 453) dX12_init_453 clX12_172 ?_
  obtain ⟨g164, h⟩ := gd h
  refine r_lastore (pc := 456) dX12_init_456 g161 g164 ?_
  refine r_dup (pc := 457) dX12_init_457 rfl ?_
  refine r_iconst (pc := 458) dX12_init_458 kc_iconst_2 ?_
  refine r_ldc2 (pc := 459) dX12_init_459 clX12_172 ?_
  obtain ⟨g166, h⟩ := gd h
  refine r_lastore (pc := 462) dX12_init_462 g161 g166 ?_
  refine r_dup (pc := 463) dX12_init_463 rfl ?_
  refine r_iconst (pc := 464) dX12_init_464 kc_iconst_3 ?_
  refine r_ldc2 (pc := 465) dX12_init_465 clX12_172 ?_
  obtain ⟨g168, h⟩ := gd h
  refine r_lastore (pc := 468) dX12_init_468 g161 g168 ?_
  refine r_dup (pc := 469) dX12_init_469 rfl ?_
  refine r_iconst (pc := 470) dX12_init_470 kc_iconst_4 ?_
  refine r_ldc2 (pc := 471) dX12_init_471 clX12_172 ?_
  obtain ⟨g170, h⟩ := gd h
  refine r_lastore (pc := 474) dX12_init_474 g161 g170 ?_
  refine r_dup (pc := 475) dX12_init_475 rfl ?_
  refine r_iconst (pc := 476) dX12_init_476 kc_iconst_5 ?_
  refine r_ldc2 (pc := 477) dX12_init_477 clX12_172 ?_
  obtain ⟨g172, h⟩ := gd h
  refine r_lastore (pc := 480) dX12_init_480 g161 g172 ?_
  refine r_dup (pc := 481) dX12_init_481 rfl ?_
  refine r_bipush (pc := 482) dX12_init_482 kc_bipush_6 ?_
  refine r_ldc2 (pc := 484) dX12_init_484 clX12_172 ?_
  obtain ⟨g174, h⟩ := gd h
  refine r_lastore (pc := 487) dX12_init_487 g161 g174 ?_
  refine r_dup (pc := 488) dX12_init_488 rfl ?_
  refine r_bipush (pc := 489) dX12_init_489 kc_bipush_7 ?_
  refine r_ldc2 (pc := 491) dX12_init_491 clX12_172 ?_
  obtain ⟨g176, h⟩ := gd h
  refine r_lastore (pc := 494) dX12_init_494 g161 g176 ?_
  refine r_dup (pc := 495) dX12_init_495 rfl ?_
  refine r_bipush (pc := 496) dX12_init_496 kc_bipush_8 ?_
  refine r_ldc2 (pc := 498) dX12_init_498 clX12_172 ?_
  obtain ⟨g178, h⟩ := gd h
  refine r_lastore (pc := 501) dX12_init_501 g161 g178 ?_
  obtain ⟨g180, h⟩ := gd h
  refine r_putRF (pc := 502) dX12_init_502 fwX12_174 rfl rfl g180 ?_
  refine r_aload_n (pc := 505) dX12_init_505 rfl 0 rfl ?_
  refine r_bipush (pc := 506) dX12_init_506 kc_bipush_9 ?_
  refine r_newa (pc := 508) (t := 21) (ti := 1) (ty := .long) dX12_init_508 rfl (by decide) ac21 (by decide) (by decide) (Nat.sub_le_sub_right (mX12_init_b510 h).1 _) (Nat.sub_le_sub_right (mX12_init_b510 h).2 _) ?_
  refine r_sub [0] rfl ?_
  exact wX12_init_b510 h
def fX12_init_b437  (t : Nat) (σ : Shp) (I : Nat → Nat → Int32) (J : Nat → Nat → Int64) (D : Nat → Nat → UInt64) (R : Nat → Nat → Option Nat) (s0 : Nat) (s1 : Nat) : Option ((Shp) × (Nat → Nat → Int32) × (Nat → Nat → Int64) × (Nat → Nat → UInt64) × (Nat → Nat → Option Nat)) :=
  if kdx σ s0 = 13 then
  let R159 := u2 R s0 84 (some s1)
  let σ160 := mkA σ 21 (Int32.toNatClampNeg (9 : Int32))
  fX12_init_b445 t σ160 I J D R159 t (nxx σ + 4)
  else none
theorem mX12_init_b437 {σ : Shp} {I : Nat → Nat → Int32} {J : Nat → Nat → Int64} {D : Nat → Nat → UInt64} {R : Nat → Nat → Option Nat} {t : Nat} {σ9 : Shp} {I9 : Nat → Nat → Int32} {J9 : Nat → Nat → Int64} {D9 : Nat → Nat → UInt64} {R9 : Nat → Nat → Option Nat} {s0 : Nat} {s1 : Nat} (h : fX12_init_b437 t σ I J D R s0 s1 = some (σ9, I9, J9, D9, R9)) : Lex σ σ9 := by
  unfold fX12_init_b437 at h
  replace h := (gd h).2
  exact Lex_mkA (mX12_init_b445 h)
theorem wX12_init_b437 {G : Gx} {l : Launch} {σ0 : Shp} {σ : Shp} {I : Nat → Nat → Int32} {J : Nat → Nat → Int64} {D : Nat → Nat → UInt64} {R : Nat → Nat → Option Nat} {t : Nat} {σ9 : Shp} {I9 : Nat → Nat → Int32} {J9 : Nat → Nat → Int64} {D9 : Nat → Nat → UInt64} {R9 : Nat → Nat → Option Nat} {s0 : Nat} {s1 : Nat} (h : fX12_init_b437 t σ I J D R s0 s1 = some (σ9, I9, J9, D9, R9)) : WX12_init G l σ0 (σ9, I9, J9, D9, R9) none (σ, I, J, D, R) 437 [(0, vR (some t))] [vR (some s1), vR (some s0)] := by
  unfold fX12_init_b437 at h
  obtain ⟨g158, h⟩ := gd h
  refine r_putRF (pc := 437) dX12_init_437 fwX12_169 rfl rfl g158 ?_
  refine r_aload_n (pc := 440) dX12_init_440 rfl 0 rfl ?_
  refine r_bipush (pc := 441) dX12_init_441 kc_bipush_9 ?_
  refine r_newa (pc := 443) (t := 21) (ti := 1) (ty := .long) dX12_init_443 rfl (by decide) ac21 (by decide) (by decide) (Nat.sub_le_sub_right (mX12_init_b445 h).1 _) (Nat.sub_le_sub_right (mX12_init_b445 h).2 _) ?_
  refine r_sub [0] rfl ?_
  exact wX12_init_b445 h
def fX12_init_b430  (t : Nat) (σ : Shp) (I : Nat → Nat → Int32) (J : Nat → Nat → Int64) (D : Nat → Nat → UInt64) (R : Nat → Nat → Option Nat) (s0 : Nat) (s1 : Nat) : Option ((Shp) × (Nat → Nat → Int32) × (Nat → Nat → Int64) × (Nat → Nat → UInt64) × (Nat → Nat → Option Nat)) :=
  if kdx σ s0 = 13 then
  let R156 := u2 R s0 82 (some s1)
  let σ157 := mkA σ 20 (Int32.toNatClampNeg (3 : Int32))
  fX12_init_b437 t σ157 I J D R156 t (nxx σ + 4)
  else none
theorem mX12_init_b430 {σ : Shp} {I : Nat → Nat → Int32} {J : Nat → Nat → Int64} {D : Nat → Nat → UInt64} {R : Nat → Nat → Option Nat} {t : Nat} {σ9 : Shp} {I9 : Nat → Nat → Int32} {J9 : Nat → Nat → Int64} {D9 : Nat → Nat → UInt64} {R9 : Nat → Nat → Option Nat} {s0 : Nat} {s1 : Nat} (h : fX12_init_b430 t σ I J D R s0 s1 = some (σ9, I9, J9, D9, R9)) : Lex σ σ9 := by
  unfold fX12_init_b430 at h
  replace h := (gd h).2
  exact Lex_mkA (mX12_init_b437 h)
theorem wX12_init_b430 {G : Gx} {l : Launch} {σ0 : Shp} {σ : Shp} {I : Nat → Nat → Int32} {J : Nat → Nat → Int64} {D : Nat → Nat → UInt64} {R : Nat → Nat → Option Nat} {t : Nat} {σ9 : Shp} {I9 : Nat → Nat → Int32} {J9 : Nat → Nat → Int64} {D9 : Nat → Nat → UInt64} {R9 : Nat → Nat → Option Nat} {s0 : Nat} {s1 : Nat} (h : fX12_init_b430 t σ I J D R s0 s1 = some (σ9, I9, J9, D9, R9)) : WX12_init G l σ0 (σ9, I9, J9, D9, R9) none (σ, I, J, D, R) 430 [(0, vR (some t))] [vR (some s1), vR (some s0)] := by
  unfold fX12_init_b430 at h
  obtain ⟨g155, h⟩ := gd h
  refine r_putRF (pc := 430) dX12_init_430 fwX12_166 rfl rfl g155 ?_
  refine r_aload_n (pc := 433) dX12_init_433 rfl 0 rfl ?_
  refine r_iconst (pc := 434) dX12_init_434 kc_iconst_3 ?_
  refine r_newa (pc := 435) (t := 20) (ti := 0) (ty := .int) dX12_init_435 rfl (by decide) ac20 (by decide) (by decide) (Nat.sub_le_sub_right (mX12_init_b437 h).1 _) (Nat.sub_le_sub_right (mX12_init_b437 h).2 _) ?_
  refine r_sub [0] rfl ?_
  exact wX12_init_b437 h
def fX12_init_b423  (t : Nat) (σ : Shp) (I : Nat → Nat → Int32) (J : Nat → Nat → Int64) (D : Nat → Nat → UInt64) (R : Nat → Nat → Option Nat) (s0 : Nat) (s1 : Nat) : Option ((Shp) × (Nat → Nat → Int32) × (Nat → Nat → Int64) × (Nat → Nat → UInt64) × (Nat → Nat → Option Nat)) :=
  if kdx σ s0 = 13 then
  let R153 := u2 R s0 81 (some s1)
  let σ154 := mkA σ 20 (Int32.toNatClampNeg (3 : Int32))
  fX12_init_b430 t σ154 I J D R153 t (nxx σ + 4)
  else none
theorem mX12_init_b423 {σ : Shp} {I : Nat → Nat → Int32} {J : Nat → Nat → Int64} {D : Nat → Nat → UInt64} {R : Nat → Nat → Option Nat} {t : Nat} {σ9 : Shp} {I9 : Nat → Nat → Int32} {J9 : Nat → Nat → Int64} {D9 : Nat → Nat → UInt64} {R9 : Nat → Nat → Option Nat} {s0 : Nat} {s1 : Nat} (h : fX12_init_b423 t σ I J D R s0 s1 = some (σ9, I9, J9, D9, R9)) : Lex σ σ9 := by
  unfold fX12_init_b423 at h
  replace h := (gd h).2
  exact Lex_mkA (mX12_init_b430 h)
theorem wX12_init_b423 {G : Gx} {l : Launch} {σ0 : Shp} {σ : Shp} {I : Nat → Nat → Int32} {J : Nat → Nat → Int64} {D : Nat → Nat → UInt64} {R : Nat → Nat → Option Nat} {t : Nat} {σ9 : Shp} {I9 : Nat → Nat → Int32} {J9 : Nat → Nat → Int64} {D9 : Nat → Nat → UInt64} {R9 : Nat → Nat → Option Nat} {s0 : Nat} {s1 : Nat} (h : fX12_init_b423 t σ I J D R s0 s1 = some (σ9, I9, J9, D9, R9)) : WX12_init G l σ0 (σ9, I9, J9, D9, R9) none (σ, I, J, D, R) 423 [(0, vR (some t))] [vR (some s1), vR (some s0)] := by
  unfold fX12_init_b423 at h
  obtain ⟨g152, h⟩ := gd h
  refine r_putRF (pc := 423) dX12_init_423 fwX12_163 rfl rfl g152 ?_
  refine r_aload_n (pc := 426) dX12_init_426 rfl 0 rfl ?_
  refine r_iconst (pc := 427) dX12_init_427 kc_iconst_3 ?_
  refine r_newa (pc := 428) (t := 20) (ti := 0) (ty := .int) dX12_init_428 rfl (by decide) ac20 (by decide) (by decide) (Nat.sub_le_sub_right (mX12_init_b430 h).1 _) (Nat.sub_le_sub_right (mX12_init_b430 h).2 _) ?_
  refine r_sub [0] rfl ?_
  exact wX12_init_b430 h
def fX12_init_b416  (t : Nat) (σ : Shp) (I : Nat → Nat → Int32) (J : Nat → Nat → Int64) (D : Nat → Nat → UInt64) (R : Nat → Nat → Option Nat) (s0 : Nat) (s1 : Nat) : Option ((Shp) × (Nat → Nat → Int32) × (Nat → Nat → Int64) × (Nat → Nat → UInt64) × (Nat → Nat → Option Nat)) :=
  if kdx σ s0 = 13 then
  let R150 := u2 R s0 80 (some s1)
  let σ151 := mkA σ 20 (Int32.toNatClampNeg (3 : Int32))
  fX12_init_b423 t σ151 I J D R150 t (nxx σ + 4)
  else none
theorem mX12_init_b416 {σ : Shp} {I : Nat → Nat → Int32} {J : Nat → Nat → Int64} {D : Nat → Nat → UInt64} {R : Nat → Nat → Option Nat} {t : Nat} {σ9 : Shp} {I9 : Nat → Nat → Int32} {J9 : Nat → Nat → Int64} {D9 : Nat → Nat → UInt64} {R9 : Nat → Nat → Option Nat} {s0 : Nat} {s1 : Nat} (h : fX12_init_b416 t σ I J D R s0 s1 = some (σ9, I9, J9, D9, R9)) : Lex σ σ9 := by
  unfold fX12_init_b416 at h
  replace h := (gd h).2
  exact Lex_mkA (mX12_init_b423 h)
theorem wX12_init_b416 {G : Gx} {l : Launch} {σ0 : Shp} {σ : Shp} {I : Nat → Nat → Int32} {J : Nat → Nat → Int64} {D : Nat → Nat → UInt64} {R : Nat → Nat → Option Nat} {t : Nat} {σ9 : Shp} {I9 : Nat → Nat → Int32} {J9 : Nat → Nat → Int64} {D9 : Nat → Nat → UInt64} {R9 : Nat → Nat → Option Nat} {s0 : Nat} {s1 : Nat} (h : fX12_init_b416 t σ I J D R s0 s1 = some (σ9, I9, J9, D9, R9)) : WX12_init G l σ0 (σ9, I9, J9, D9, R9) none (σ, I, J, D, R) 416 [(0, vR (some t))] [vR (some s1), vR (some s0)] := by
  unfold fX12_init_b416 at h
  obtain ⟨g149, h⟩ := gd h
  refine r_putRF (pc := 416) dX12_init_416 fwX12_160 rfl rfl g149 ?_
  refine r_aload_n (pc := 419) dX12_init_419 rfl 0 rfl ?_
  refine r_iconst (pc := 420) dX12_init_420 kc_iconst_3 ?_
  refine r_newa (pc := 421) (t := 20) (ti := 0) (ty := .int) dX12_init_421 rfl (by decide) ac20 (by decide) (by decide) (Nat.sub_le_sub_right (mX12_init_b423 h).1 _) (Nat.sub_le_sub_right (mX12_init_b423 h).2 _) ?_
  refine r_sub [0] rfl ?_
  exact wX12_init_b423 h
def fX12_init_b409  (t : Nat) (σ : Shp) (I : Nat → Nat → Int32) (J : Nat → Nat → Int64) (D : Nat → Nat → UInt64) (R : Nat → Nat → Option Nat) (s0 : Nat) (s1 : Nat) : Option ((Shp) × (Nat → Nat → Int32) × (Nat → Nat → Int64) × (Nat → Nat → UInt64) × (Nat → Nat → Option Nat)) :=
  if kdx σ s0 = 13 then
  let R147 := u2 R s0 79 (some s1)
  let σ148 := mkA σ 24 (Int32.toNatClampNeg (3 : Int32))
  fX12_init_b416 t σ148 I J D R147 t (nxx σ + 4)
  else none
theorem mX12_init_b409 {σ : Shp} {I : Nat → Nat → Int32} {J : Nat → Nat → Int64} {D : Nat → Nat → UInt64} {R : Nat → Nat → Option Nat} {t : Nat} {σ9 : Shp} {I9 : Nat → Nat → Int32} {J9 : Nat → Nat → Int64} {D9 : Nat → Nat → UInt64} {R9 : Nat → Nat → Option Nat} {s0 : Nat} {s1 : Nat} (h : fX12_init_b409 t σ I J D R s0 s1 = some (σ9, I9, J9, D9, R9)) : Lex σ σ9 := by
  unfold fX12_init_b409 at h
  replace h := (gd h).2
  exact Lex_mkA (mX12_init_b416 h)
theorem wX12_init_b409 {G : Gx} {l : Launch} {σ0 : Shp} {σ : Shp} {I : Nat → Nat → Int32} {J : Nat → Nat → Int64} {D : Nat → Nat → UInt64} {R : Nat → Nat → Option Nat} {t : Nat} {σ9 : Shp} {I9 : Nat → Nat → Int32} {J9 : Nat → Nat → Int64} {D9 : Nat → Nat → UInt64} {R9 : Nat → Nat → Option Nat} {s0 : Nat} {s1 : Nat} (h : fX12_init_b409 t σ I J D R s0 s1 = some (σ9, I9, J9, D9, R9)) : WX12_init G l σ0 (σ9, I9, J9, D9, R9) none (σ, I, J, D, R) 409 [(0, vR (some t))] [vR (some s1), vR (some s0)] := by
  unfold fX12_init_b409 at h
  obtain ⟨g146, h⟩ := gd h
  refine r_putRF (pc := 409) dX12_init_409 fwX12_156 rfl rfl g146 ?_
  refine r_aload_n (pc := 412) dX12_init_412 rfl 0 rfl ?_
  refine r_iconst (pc := 413) dX12_init_413 kc_iconst_3 ?_
  refine r_newa (pc := 414) (t := 24) (ti := 4) (ty := .boolean) dX12_init_414 rfl (by decide) ac24 (by decide) (by decide) (Nat.sub_le_sub_right (mX12_init_b416 h).1 _) (Nat.sub_le_sub_right (mX12_init_b416 h).2 _) ?_
  refine r_sub [0] rfl ?_
  exact wX12_init_b416 h
def fX12_init_b390  (t : Nat) (σ : Shp) (I : Nat → Nat → Int32) (J : Nat → Nat → Int64) (D : Nat → Nat → UInt64) (R : Nat → Nat → Option Nat) (s0 : Nat) (s1 : Nat) : Option ((Shp) × (Nat → Nat → Int32) × (Nat → Nat → Int64) × (Nat → Nat → UInt64) × (Nat → Nat → Option Nat)) :=
  if kdx σ s1 = 20 then
  if ¬ ((0 : Int32) < 0 ∨ lnx σ s1 ≤ Int32.toNatClampNeg (0 : Int32)) then
  let I138 := u2 I s1 (Int32.toNatClampNeg (0 : Int32)) (-1 : Int32)
  if ¬ ((1 : Int32) < 0 ∨ lnx σ s1 ≤ Int32.toNatClampNeg (1 : Int32)) then
  let I140 := u2 I138 s1 (Int32.toNatClampNeg (1 : Int32)) (-1 : Int32)
  if ¬ ((2 : Int32) < 0 ∨ lnx σ s1 ≤ Int32.toNatClampNeg (2 : Int32)) then
  let I142 := u2 I140 s1 (Int32.toNatClampNeg (2 : Int32)) (-1 : Int32)
  if kdx σ s0 = 13 then
  let R144 := u2 R s0 78 (some s1)
  let σ145 := mkA σ 24 (Int32.toNatClampNeg (3 : Int32))
  fX12_init_b409 t σ145 I142 J D R144 t (nxx σ + 4)
  else none
  else none
  else none
  else none
  else none
theorem mX12_init_b390 {σ : Shp} {I : Nat → Nat → Int32} {J : Nat → Nat → Int64} {D : Nat → Nat → UInt64} {R : Nat → Nat → Option Nat} {t : Nat} {σ9 : Shp} {I9 : Nat → Nat → Int32} {J9 : Nat → Nat → Int64} {D9 : Nat → Nat → UInt64} {R9 : Nat → Nat → Option Nat} {s0 : Nat} {s1 : Nat} (h : fX12_init_b390 t σ I J D R s0 s1 = some (σ9, I9, J9, D9, R9)) : Lex σ σ9 := by
  unfold fX12_init_b390 at h
  replace h := (gd h).2
  replace h := (gd h).2
  replace h := (gd h).2
  replace h := (gd h).2
  replace h := (gd h).2
  exact Lex_mkA (mX12_init_b409 h)
theorem wX12_init_b390 {G : Gx} {l : Launch} {σ0 : Shp} {σ : Shp} {I : Nat → Nat → Int32} {J : Nat → Nat → Int64} {D : Nat → Nat → UInt64} {R : Nat → Nat → Option Nat} {t : Nat} {σ9 : Shp} {I9 : Nat → Nat → Int32} {J9 : Nat → Nat → Int64} {D9 : Nat → Nat → UInt64} {R9 : Nat → Nat → Option Nat} {s0 : Nat} {s1 : Nat} (h : fX12_init_b390 t σ I J D R s0 s1 = some (σ9, I9, J9, D9, R9)) : WX12_init G l σ0 (σ9, I9, J9, D9, R9) none (σ, I, J, D, R) 390 [(0, vR (some t))] [vR (some s1), vR (some s0)] := by
  unfold fX12_init_b390 at h
  refine r_dup (pc := 390) dX12_init_390 rfl ?_
  refine r_iconst (pc := 391) dX12_init_391 kc_iconst_0 ?_
  refine r_iconst (pc := 392) dX12_init_392 kc_iconst_m1 ?_
  obtain ⟨g136, h⟩ := gd h
  obtain ⟨g137, h⟩ := gd h
  refine r_iastore (pc := 393) dX12_init_393 g136 g137 ?_
  refine r_dup (pc := 394) dX12_init_394 rfl ?_
  refine r_iconst (pc := 395) dX12_init_395 kc_iconst_1 ?_
  refine r_iconst (pc := 396) dX12_init_396 kc_iconst_m1 ?_
  obtain ⟨g139, h⟩ := gd h
  refine r_iastore (pc := 397) dX12_init_397 g136 g139 ?_
  refine r_dup (pc := 398) dX12_init_398 rfl ?_
  refine r_iconst (pc := 399) dX12_init_399 kc_iconst_2 ?_
  refine r_iconst (pc := 400) dX12_init_400 kc_iconst_m1 ?_
  obtain ⟨g141, h⟩ := gd h
  refine r_iastore (pc := 401) dX12_init_401 g136 g141 ?_
  obtain ⟨g143, h⟩ := gd h
  refine r_putRF (pc := 402) dX12_init_402 fwX12_153 rfl rfl g143 ?_
  refine r_aload_n (pc := 405) dX12_init_405 rfl 0 rfl ?_
  refine r_iconst (pc := 406) dX12_init_406 kc_iconst_3 ?_
  refine r_newa (pc := 407) (t := 24) (ti := 4) (ty := .boolean) dX12_init_407 rfl (by decide) ac24 (by decide) (by decide) (Nat.sub_le_sub_right (mX12_init_b409 h).1 _) (Nat.sub_le_sub_right (mX12_init_b409 h).2 _) ?_
  refine r_sub [0] rfl ?_
  exact wX12_init_b409 h
def fX12_init_b383  (t : Nat) (σ : Shp) (I : Nat → Nat → Int32) (J : Nat → Nat → Int64) (D : Nat → Nat → UInt64) (R : Nat → Nat → Option Nat) (s0 : Nat) (s1 : Nat) : Option ((Shp) × (Nat → Nat → Int32) × (Nat → Nat → Int64) × (Nat → Nat → UInt64) × (Nat → Nat → Option Nat)) :=
  if kdx σ s0 = 13 then
  let R134 := u2 R s0 77 (some s1)
  let σ135 := mkA σ 20 (Int32.toNatClampNeg (3 : Int32))
  fX12_init_b390 t σ135 I J D R134 t (nxx σ + 4)
  else none
theorem mX12_init_b383 {σ : Shp} {I : Nat → Nat → Int32} {J : Nat → Nat → Int64} {D : Nat → Nat → UInt64} {R : Nat → Nat → Option Nat} {t : Nat} {σ9 : Shp} {I9 : Nat → Nat → Int32} {J9 : Nat → Nat → Int64} {D9 : Nat → Nat → UInt64} {R9 : Nat → Nat → Option Nat} {s0 : Nat} {s1 : Nat} (h : fX12_init_b383 t σ I J D R s0 s1 = some (σ9, I9, J9, D9, R9)) : Lex σ σ9 := by
  unfold fX12_init_b383 at h
  replace h := (gd h).2
  exact Lex_mkA (mX12_init_b390 h)
theorem wX12_init_b383 {G : Gx} {l : Launch} {σ0 : Shp} {σ : Shp} {I : Nat → Nat → Int32} {J : Nat → Nat → Int64} {D : Nat → Nat → UInt64} {R : Nat → Nat → Option Nat} {t : Nat} {σ9 : Shp} {I9 : Nat → Nat → Int32} {J9 : Nat → Nat → Int64} {D9 : Nat → Nat → UInt64} {R9 : Nat → Nat → Option Nat} {s0 : Nat} {s1 : Nat} (h : fX12_init_b383 t σ I J D R s0 s1 = some (σ9, I9, J9, D9, R9)) : WX12_init G l σ0 (σ9, I9, J9, D9, R9) none (σ, I, J, D, R) 383 [(0, vR (some t))] [vR (some s1), vR (some s0)] := by
  unfold fX12_init_b383 at h
  obtain ⟨g133, h⟩ := gd h
  refine r_putRF (pc := 383) dX12_init_383 fwX12_150 rfl rfl g133 ?_
  refine r_aload_n (pc := 386) dX12_init_386 rfl 0 rfl ?_
  refine r_iconst (pc := 387) dX12_init_387 kc_iconst_3 ?_
  refine r_newa (pc := 388) (t := 20) (ti := 0) (ty := .int) dX12_init_388 rfl (by decide) ac20 (by decide) (by decide) (Nat.sub_le_sub_right (mX12_init_b390 h).1 _) (Nat.sub_le_sub_right (mX12_init_b390 h).2 _) ?_
  refine r_sub [0] rfl ?_
  exact wX12_init_b390 h
def fX12_init_b375  (t : Nat) (σ : Shp) (I : Nat → Nat → Int32) (J : Nat → Nat → Int64) (D : Nat → Nat → UInt64) (R : Nat → Nat → Option Nat) (s0 : Nat) (s1 : Nat) : Option ((Shp) × (Nat → Nat → Int32) × (Nat → Nat → Int64) × (Nat → Nat → UInt64) × (Nat → Nat → Option Nat)) :=
  if kdx σ s0 = 13 then
  let R131 := u2 R s0 76 (some s1)
  let σ132 := mkA σ 20 (Int32.toNatClampNeg (24 : Int32))
  fX12_init_b383 t σ132 I J D R131 t (nxx σ + 4)
  else none
theorem mX12_init_b375 {σ : Shp} {I : Nat → Nat → Int32} {J : Nat → Nat → Int64} {D : Nat → Nat → UInt64} {R : Nat → Nat → Option Nat} {t : Nat} {σ9 : Shp} {I9 : Nat → Nat → Int32} {J9 : Nat → Nat → Int64} {D9 : Nat → Nat → UInt64} {R9 : Nat → Nat → Option Nat} {s0 : Nat} {s1 : Nat} (h : fX12_init_b375 t σ I J D R s0 s1 = some (σ9, I9, J9, D9, R9)) : Lex σ σ9 := by
  unfold fX12_init_b375 at h
  replace h := (gd h).2
  exact Lex_mkA (mX12_init_b383 h)
theorem wX12_init_b375 {G : Gx} {l : Launch} {σ0 : Shp} {σ : Shp} {I : Nat → Nat → Int32} {J : Nat → Nat → Int64} {D : Nat → Nat → UInt64} {R : Nat → Nat → Option Nat} {t : Nat} {σ9 : Shp} {I9 : Nat → Nat → Int32} {J9 : Nat → Nat → Int64} {D9 : Nat → Nat → UInt64} {R9 : Nat → Nat → Option Nat} {s0 : Nat} {s1 : Nat} (h : fX12_init_b375 t σ I J D R s0 s1 = some (σ9, I9, J9, D9, R9)) : WX12_init G l σ0 (σ9, I9, J9, D9, R9) none (σ, I, J, D, R) 375 [(0, vR (some t))] [vR (some s1), vR (some s0)] := by
  unfold fX12_init_b375 at h
  obtain ⟨g130, h⟩ := gd h
  refine r_putRF (pc := 375) dX12_init_375 fwX12_147 rfl rfl g130 ?_
  refine r_aload_n (pc := 378) dX12_init_378 rfl 0 rfl ?_
  refine r_bipush (pc := 379) dX12_init_379 kc_bipush_24 ?_
  refine r_newa (pc := 381) (t := 20) (ti := 0) (ty := .int) dX12_init_381 rfl (by decide) ac20 (by decide) (by decide) (Nat.sub_le_sub_right (mX12_init_b383 h).1 _) (Nat.sub_le_sub_right (mX12_init_b383 h).2 _) ?_
  refine r_sub [0] rfl ?_
  exact wX12_init_b383 h
def fX12_init_b367  (t : Nat) (σ : Shp) (I : Nat → Nat → Int32) (J : Nat → Nat → Int64) (D : Nat → Nat → UInt64) (R : Nat → Nat → Option Nat) (s0 : Nat) (s1 : Nat) : Option ((Shp) × (Nat → Nat → Int32) × (Nat → Nat → Int64) × (Nat → Nat → UInt64) × (Nat → Nat → Option Nat)) :=
  if kdx σ s0 = 13 then
  let R128 := u2 R s0 75 (some s1)
  let σ129 := mkA σ 20 (Int32.toNatClampNeg (24 : Int32))
  fX12_init_b375 t σ129 I J D R128 t (nxx σ + 4)
  else none
theorem mX12_init_b367 {σ : Shp} {I : Nat → Nat → Int32} {J : Nat → Nat → Int64} {D : Nat → Nat → UInt64} {R : Nat → Nat → Option Nat} {t : Nat} {σ9 : Shp} {I9 : Nat → Nat → Int32} {J9 : Nat → Nat → Int64} {D9 : Nat → Nat → UInt64} {R9 : Nat → Nat → Option Nat} {s0 : Nat} {s1 : Nat} (h : fX12_init_b367 t σ I J D R s0 s1 = some (σ9, I9, J9, D9, R9)) : Lex σ σ9 := by
  unfold fX12_init_b367 at h
  replace h := (gd h).2
  exact Lex_mkA (mX12_init_b375 h)
theorem wX12_init_b367 {G : Gx} {l : Launch} {σ0 : Shp} {σ : Shp} {I : Nat → Nat → Int32} {J : Nat → Nat → Int64} {D : Nat → Nat → UInt64} {R : Nat → Nat → Option Nat} {t : Nat} {σ9 : Shp} {I9 : Nat → Nat → Int32} {J9 : Nat → Nat → Int64} {D9 : Nat → Nat → UInt64} {R9 : Nat → Nat → Option Nat} {s0 : Nat} {s1 : Nat} (h : fX12_init_b367 t σ I J D R s0 s1 = some (σ9, I9, J9, D9, R9)) : WX12_init G l σ0 (σ9, I9, J9, D9, R9) none (σ, I, J, D, R) 367 [(0, vR (some t))] [vR (some s1), vR (some s0)] := by
  unfold fX12_init_b367 at h
  obtain ⟨g127, h⟩ := gd h
  refine r_putRF (pc := 367) dX12_init_367 fwX12_144 rfl rfl g127 ?_
  refine r_aload_n (pc := 370) dX12_init_370 rfl 0 rfl ?_
  refine r_bipush (pc := 371) dX12_init_371 kc_bipush_24 ?_
  refine r_newa (pc := 373) (t := 20) (ti := 0) (ty := .int) dX12_init_373 rfl (by decide) ac20 (by decide) (by decide) (Nat.sub_le_sub_right (mX12_init_b375 h).1 _) (Nat.sub_le_sub_right (mX12_init_b375 h).2 _) ?_
  refine r_sub [0] rfl ?_
  exact wX12_init_b375 h
def fX12_init_b355  (t : Nat) (σ : Shp) (I : Nat → Nat → Int32) (J : Nat → Nat → Int64) (D : Nat → Nat → UInt64) (R : Nat → Nat → Option Nat) (s0 : Nat) (s1 : Nat) : Option ((Shp) × (Nat → Nat → Int32) × (Nat → Nat → Int64) × (Nat → Nat → UInt64) × (Nat → Nat → Option Nat)) :=
  if kdx σ s0 = 13 then
  let R123 := u2 R s0 56 (some s1)
  if kdx σ t = 13 then
  let I125 := u2 I t 71 (-1 : Int32)
  let σ126 := mkA σ 20 (Int32.toNatClampNeg (3 : Int32))
  fX12_init_b367 t σ126 I125 J D R123 t (nxx σ + 4)
  else none
  else none
theorem mX12_init_b355 {σ : Shp} {I : Nat → Nat → Int32} {J : Nat → Nat → Int64} {D : Nat → Nat → UInt64} {R : Nat → Nat → Option Nat} {t : Nat} {σ9 : Shp} {I9 : Nat → Nat → Int32} {J9 : Nat → Nat → Int64} {D9 : Nat → Nat → UInt64} {R9 : Nat → Nat → Option Nat} {s0 : Nat} {s1 : Nat} (h : fX12_init_b355 t σ I J D R s0 s1 = some (σ9, I9, J9, D9, R9)) : Lex σ σ9 := by
  unfold fX12_init_b355 at h
  replace h := (gd h).2
  replace h := (gd h).2
  exact Lex_mkA (mX12_init_b367 h)
theorem wX12_init_b355 {G : Gx} {l : Launch} {σ0 : Shp} {σ : Shp} {I : Nat → Nat → Int32} {J : Nat → Nat → Int64} {D : Nat → Nat → UInt64} {R : Nat → Nat → Option Nat} {t : Nat} {σ9 : Shp} {I9 : Nat → Nat → Int32} {J9 : Nat → Nat → Int64} {D9 : Nat → Nat → UInt64} {R9 : Nat → Nat → Option Nat} {s0 : Nat} {s1 : Nat} (h : fX12_init_b355 t σ I J D R s0 s1 = some (σ9, I9, J9, D9, R9)) : WX12_init G l σ0 (σ9, I9, J9, D9, R9) none (σ, I, J, D, R) 355 [(0, vR (some t))] [vR (some s1), vR (some s0)] := by
  unfold fX12_init_b355 at h
  obtain ⟨g122, h⟩ := gd h
  refine r_putRF (pc := 355) dX12_init_355 fwX12_137 rfl rfl g122 ?_
  refine r_aload_n (pc := 358) dX12_init_358 rfl 0 rfl ?_
  refine r_iconst (pc := 359) dX12_init_359 kc_iconst_m1 ?_
  obtain ⟨g124, h⟩ := gd h
  refine r_putI (pc := 360) dX12_init_360 fwX12_140 rfl g124 ?_
  refine r_aload_n (pc := 363) dX12_init_363 rfl 0 rfl ?_
  refine r_iconst (pc := 364) dX12_init_364 kc_iconst_3 ?_
  refine r_newa (pc := 365) (t := 20) (ti := 0) (ty := .int) dX12_init_365 rfl (by decide) ac20 (by decide) (by decide) (Nat.sub_le_sub_right (mX12_init_b367 h).1 _) (Nat.sub_le_sub_right (mX12_init_b367 h).2 _) ?_
  refine r_sub [0] rfl ?_
  exact wX12_init_b367 h
def fX12_init_b346  (t : Nat) (σ : Shp) (I : Nat → Nat → Int32) (J : Nat → Nat → Int64) (D : Nat → Nat → UInt64) (R : Nat → Nat → Option Nat) (s0 : Nat) (s1 : Nat) : Option ((Shp) × (Nat → Nat → Int32) × (Nat → Nat → Int64) × (Nat → Nat → UInt64) × (Nat → Nat → Option Nat)) :=
  if kdx σ s0 = 13 then
  let R120 := u2 R s0 55 (some s1)
  let σ121 := mkA σ 21 (Int32.toNatClampNeg (2000 : Int32))
  fX12_init_b355 t σ121 I J D R120 t (nxx σ + 4)
  else none
theorem mX12_init_b346 {σ : Shp} {I : Nat → Nat → Int32} {J : Nat → Nat → Int64} {D : Nat → Nat → UInt64} {R : Nat → Nat → Option Nat} {t : Nat} {σ9 : Shp} {I9 : Nat → Nat → Int32} {J9 : Nat → Nat → Int64} {D9 : Nat → Nat → UInt64} {R9 : Nat → Nat → Option Nat} {s0 : Nat} {s1 : Nat} (h : fX12_init_b346 t σ I J D R s0 s1 = some (σ9, I9, J9, D9, R9)) : Lex σ σ9 := by
  unfold fX12_init_b346 at h
  replace h := (gd h).2
  exact Lex_mkA (mX12_init_b355 h)
theorem wX12_init_b346 {G : Gx} {l : Launch} {σ0 : Shp} {σ : Shp} {I : Nat → Nat → Int32} {J : Nat → Nat → Int64} {D : Nat → Nat → UInt64} {R : Nat → Nat → Option Nat} {t : Nat} {σ9 : Shp} {I9 : Nat → Nat → Int32} {J9 : Nat → Nat → Int64} {D9 : Nat → Nat → UInt64} {R9 : Nat → Nat → Option Nat} {s0 : Nat} {s1 : Nat} (h : fX12_init_b346 t σ I J D R s0 s1 = some (σ9, I9, J9, D9, R9)) : WX12_init G l σ0 (σ9, I9, J9, D9, R9) none (σ, I, J, D, R) 346 [(0, vR (some t))] [vR (some s1), vR (some s0)] := by
  unfold fX12_init_b346 at h
  obtain ⟨g119, h⟩ := gd h
  refine r_putRF (pc := 346) dX12_init_346 fwX12_134 rfl rfl g119 ?_
  refine r_aload_n (pc := 349) dX12_init_349 rfl 0 rfl ?_
  refine r_sipush (pc := 350) dX12_init_350 kc_sipush_2000 ?_
  refine r_newa (pc := 353) (t := 21) (ti := 1) (ty := .long) dX12_init_353 rfl (by decide) ac21 (by decide) (by decide) (Nat.sub_le_sub_right (mX12_init_b355 h).1 _) (Nat.sub_le_sub_right (mX12_init_b355 h).2 _) ?_
  refine r_sub [0] rfl ?_
  exact wX12_init_b355 h
def fX12_init_b337  (t : Nat) (σ : Shp) (I : Nat → Nat → Int32) (J : Nat → Nat → Int64) (D : Nat → Nat → UInt64) (R : Nat → Nat → Option Nat) (s0 : Nat) (s1 : Nat) : Option ((Shp) × (Nat → Nat → Int32) × (Nat → Nat → Int64) × (Nat → Nat → UInt64) × (Nat → Nat → Option Nat)) :=
  if kdx σ s0 = 13 then
  let R117 := u2 R s0 53 (some s1)
  let σ118 := mkA σ 20 (Int32.toNatClampNeg (2000 : Int32))
  fX12_init_b346 t σ118 I J D R117 t (nxx σ + 4)
  else none
theorem mX12_init_b337 {σ : Shp} {I : Nat → Nat → Int32} {J : Nat → Nat → Int64} {D : Nat → Nat → UInt64} {R : Nat → Nat → Option Nat} {t : Nat} {σ9 : Shp} {I9 : Nat → Nat → Int32} {J9 : Nat → Nat → Int64} {D9 : Nat → Nat → UInt64} {R9 : Nat → Nat → Option Nat} {s0 : Nat} {s1 : Nat} (h : fX12_init_b337 t σ I J D R s0 s1 = some (σ9, I9, J9, D9, R9)) : Lex σ σ9 := by
  unfold fX12_init_b337 at h
  replace h := (gd h).2
  exact Lex_mkA (mX12_init_b346 h)
theorem wX12_init_b337 {G : Gx} {l : Launch} {σ0 : Shp} {σ : Shp} {I : Nat → Nat → Int32} {J : Nat → Nat → Int64} {D : Nat → Nat → UInt64} {R : Nat → Nat → Option Nat} {t : Nat} {σ9 : Shp} {I9 : Nat → Nat → Int32} {J9 : Nat → Nat → Int64} {D9 : Nat → Nat → UInt64} {R9 : Nat → Nat → Option Nat} {s0 : Nat} {s1 : Nat} (h : fX12_init_b337 t σ I J D R s0 s1 = some (σ9, I9, J9, D9, R9)) : WX12_init G l σ0 (σ9, I9, J9, D9, R9) none (σ, I, J, D, R) 337 [(0, vR (some t))] [vR (some s1), vR (some s0)] := by
  unfold fX12_init_b337 at h
  obtain ⟨g116, h⟩ := gd h
  refine r_putRF (pc := 337) dX12_init_337 fwX12_131 rfl rfl g116 ?_
  refine r_aload_n (pc := 340) dX12_init_340 rfl 0 rfl ?_
  refine r_sipush (pc := 341) dX12_init_341 kc_sipush_2000 ?_
  refine r_newa (pc := 344) (t := 20) (ti := 0) (ty := .int) dX12_init_344 rfl (by decide) ac20 (by decide) (by decide) (Nat.sub_le_sub_right (mX12_init_b346 h).1 _) (Nat.sub_le_sub_right (mX12_init_b346 h).2 _) ?_
  refine r_sub [0] rfl ?_
  exact wX12_init_b346 h
def fX12_init_b328  (t : Nat) (σ : Shp) (I : Nat → Nat → Int32) (J : Nat → Nat → Int64) (D : Nat → Nat → UInt64) (R : Nat → Nat → Option Nat) (s0 : Nat) (s1 : Nat) : Option ((Shp) × (Nat → Nat → Int32) × (Nat → Nat → Int64) × (Nat → Nat → UInt64) × (Nat → Nat → Option Nat)) :=
  if kdx σ s0 = 13 then
  let R114 := u2 R s0 52 (some s1)
  let σ115 := mkA σ 20 (Int32.toNatClampNeg (400 : Int32))
  fX12_init_b337 t σ115 I J D R114 t (nxx σ + 4)
  else none
theorem mX12_init_b328 {σ : Shp} {I : Nat → Nat → Int32} {J : Nat → Nat → Int64} {D : Nat → Nat → UInt64} {R : Nat → Nat → Option Nat} {t : Nat} {σ9 : Shp} {I9 : Nat → Nat → Int32} {J9 : Nat → Nat → Int64} {D9 : Nat → Nat → UInt64} {R9 : Nat → Nat → Option Nat} {s0 : Nat} {s1 : Nat} (h : fX12_init_b328 t σ I J D R s0 s1 = some (σ9, I9, J9, D9, R9)) : Lex σ σ9 := by
  unfold fX12_init_b328 at h
  replace h := (gd h).2
  exact Lex_mkA (mX12_init_b337 h)
theorem wX12_init_b328 {G : Gx} {l : Launch} {σ0 : Shp} {σ : Shp} {I : Nat → Nat → Int32} {J : Nat → Nat → Int64} {D : Nat → Nat → UInt64} {R : Nat → Nat → Option Nat} {t : Nat} {σ9 : Shp} {I9 : Nat → Nat → Int32} {J9 : Nat → Nat → Int64} {D9 : Nat → Nat → UInt64} {R9 : Nat → Nat → Option Nat} {s0 : Nat} {s1 : Nat} (h : fX12_init_b328 t σ I J D R s0 s1 = some (σ9, I9, J9, D9, R9)) : WX12_init G l σ0 (σ9, I9, J9, D9, R9) none (σ, I, J, D, R) 328 [(0, vR (some t))] [vR (some s1), vR (some s0)] := by
  unfold fX12_init_b328 at h
  obtain ⟨g113, h⟩ := gd h
  refine r_putRF (pc := 328) dX12_init_328 fwX12_128 rfl rfl g113 ?_
  refine r_aload_n (pc := 331) dX12_init_331 rfl 0 rfl ?_
  refine r_sipush (pc := 332) dX12_init_332 kc_sipush_400 ?_
  refine r_newa (pc := 335) (t := 20) (ti := 0) (ty := .int) dX12_init_335 rfl (by decide) ac20 (by decide) (by decide) (Nat.sub_le_sub_right (mX12_init_b337 h).1 _) (Nat.sub_le_sub_right (mX12_init_b337 h).2 _) ?_
  refine r_sub [0] rfl ?_
  exact wX12_init_b337 h
def fX12_init_b319  (t : Nat) (σ : Shp) (I : Nat → Nat → Int32) (J : Nat → Nat → Int64) (D : Nat → Nat → UInt64) (R : Nat → Nat → Option Nat) (s0 : Nat) (s1 : Nat) : Option ((Shp) × (Nat → Nat → Int32) × (Nat → Nat → Int64) × (Nat → Nat → UInt64) × (Nat → Nat → Option Nat)) :=
  if kdx σ s0 = 13 then
  let R111 := u2 R s0 51 (some s1)
  let σ112 := mkA σ 20 (Int32.toNatClampNeg (400 : Int32))
  fX12_init_b328 t σ112 I J D R111 t (nxx σ + 4)
  else none
theorem mX12_init_b319 {σ : Shp} {I : Nat → Nat → Int32} {J : Nat → Nat → Int64} {D : Nat → Nat → UInt64} {R : Nat → Nat → Option Nat} {t : Nat} {σ9 : Shp} {I9 : Nat → Nat → Int32} {J9 : Nat → Nat → Int64} {D9 : Nat → Nat → UInt64} {R9 : Nat → Nat → Option Nat} {s0 : Nat} {s1 : Nat} (h : fX12_init_b319 t σ I J D R s0 s1 = some (σ9, I9, J9, D9, R9)) : Lex σ σ9 := by
  unfold fX12_init_b319 at h
  replace h := (gd h).2
  exact Lex_mkA (mX12_init_b328 h)
theorem wX12_init_b319 {G : Gx} {l : Launch} {σ0 : Shp} {σ : Shp} {I : Nat → Nat → Int32} {J : Nat → Nat → Int64} {D : Nat → Nat → UInt64} {R : Nat → Nat → Option Nat} {t : Nat} {σ9 : Shp} {I9 : Nat → Nat → Int32} {J9 : Nat → Nat → Int64} {D9 : Nat → Nat → UInt64} {R9 : Nat → Nat → Option Nat} {s0 : Nat} {s1 : Nat} (h : fX12_init_b319 t σ I J D R s0 s1 = some (σ9, I9, J9, D9, R9)) : WX12_init G l σ0 (σ9, I9, J9, D9, R9) none (σ, I, J, D, R) 319 [(0, vR (some t))] [vR (some s1), vR (some s0)] := by
  unfold fX12_init_b319 at h
  obtain ⟨g110, h⟩ := gd h
  refine r_putRF (pc := 319) dX12_init_319 fwX12_125 rfl rfl g110 ?_
  refine r_aload_n (pc := 322) dX12_init_322 rfl 0 rfl ?_
  refine r_sipush (pc := 323) dX12_init_323 kc_sipush_400 ?_
  refine r_newa (pc := 326) (t := 20) (ti := 0) (ty := .int) dX12_init_326 rfl (by decide) ac20 (by decide) (by decide) (Nat.sub_le_sub_right (mX12_init_b328 h).1 _) (Nat.sub_le_sub_right (mX12_init_b328 h).2 _) ?_
  refine r_sub [0] rfl ?_
  exact wX12_init_b328 h
def fX12_init_b310  (t : Nat) (σ : Shp) (I : Nat → Nat → Int32) (J : Nat → Nat → Int64) (D : Nat → Nat → UInt64) (R : Nat → Nat → Option Nat) (s0 : Nat) (s1 : Nat) : Option ((Shp) × (Nat → Nat → Int32) × (Nat → Nat → Int64) × (Nat → Nat → UInt64) × (Nat → Nat → Option Nat)) :=
  if kdx σ s0 = 13 then
  let R108 := u2 R s0 50 (some s1)
  let σ109 := mkA σ 20 (Int32.toNatClampNeg (400 : Int32))
  fX12_init_b319 t σ109 I J D R108 t (nxx σ + 4)
  else none
theorem mX12_init_b310 {σ : Shp} {I : Nat → Nat → Int32} {J : Nat → Nat → Int64} {D : Nat → Nat → UInt64} {R : Nat → Nat → Option Nat} {t : Nat} {σ9 : Shp} {I9 : Nat → Nat → Int32} {J9 : Nat → Nat → Int64} {D9 : Nat → Nat → UInt64} {R9 : Nat → Nat → Option Nat} {s0 : Nat} {s1 : Nat} (h : fX12_init_b310 t σ I J D R s0 s1 = some (σ9, I9, J9, D9, R9)) : Lex σ σ9 := by
  unfold fX12_init_b310 at h
  replace h := (gd h).2
  exact Lex_mkA (mX12_init_b319 h)
theorem wX12_init_b310 {G : Gx} {l : Launch} {σ0 : Shp} {σ : Shp} {I : Nat → Nat → Int32} {J : Nat → Nat → Int64} {D : Nat → Nat → UInt64} {R : Nat → Nat → Option Nat} {t : Nat} {σ9 : Shp} {I9 : Nat → Nat → Int32} {J9 : Nat → Nat → Int64} {D9 : Nat → Nat → UInt64} {R9 : Nat → Nat → Option Nat} {s0 : Nat} {s1 : Nat} (h : fX12_init_b310 t σ I J D R s0 s1 = some (σ9, I9, J9, D9, R9)) : WX12_init G l σ0 (σ9, I9, J9, D9, R9) none (σ, I, J, D, R) 310 [(0, vR (some t))] [vR (some s1), vR (some s0)] := by
  unfold fX12_init_b310 at h
  obtain ⟨g107, h⟩ := gd h
  refine r_putRF (pc := 310) dX12_init_310 fwX12_122 rfl rfl g107 ?_
  refine r_aload_n (pc := 313) dX12_init_313 rfl 0 rfl ?_
  refine r_sipush (pc := 314) dX12_init_314 kc_sipush_400 ?_
  refine r_newa (pc := 317) (t := 20) (ti := 0) (ty := .int) dX12_init_317 rfl (by decide) ac20 (by decide) (by decide) (Nat.sub_le_sub_right (mX12_init_b319 h).1 _) (Nat.sub_le_sub_right (mX12_init_b319 h).2 _) ?_
  refine r_sub [0] rfl ?_
  exact wX12_init_b319 h
def fX12_init_b301  (t : Nat) (σ : Shp) (I : Nat → Nat → Int32) (J : Nat → Nat → Int64) (D : Nat → Nat → UInt64) (R : Nat → Nat → Option Nat) (s0 : Nat) (s1 : Nat) : Option ((Shp) × (Nat → Nat → Int32) × (Nat → Nat → Int64) × (Nat → Nat → UInt64) × (Nat → Nat → Option Nat)) :=
  if kdx σ s0 = 13 then
  let R105 := u2 R s0 49 (some s1)
  let σ106 := mkA σ 20 (Int32.toNatClampNeg (400 : Int32))
  fX12_init_b310 t σ106 I J D R105 t (nxx σ + 4)
  else none
theorem mX12_init_b301 {σ : Shp} {I : Nat → Nat → Int32} {J : Nat → Nat → Int64} {D : Nat → Nat → UInt64} {R : Nat → Nat → Option Nat} {t : Nat} {σ9 : Shp} {I9 : Nat → Nat → Int32} {J9 : Nat → Nat → Int64} {D9 : Nat → Nat → UInt64} {R9 : Nat → Nat → Option Nat} {s0 : Nat} {s1 : Nat} (h : fX12_init_b301 t σ I J D R s0 s1 = some (σ9, I9, J9, D9, R9)) : Lex σ σ9 := by
  unfold fX12_init_b301 at h
  replace h := (gd h).2
  exact Lex_mkA (mX12_init_b310 h)
theorem wX12_init_b301 {G : Gx} {l : Launch} {σ0 : Shp} {σ : Shp} {I : Nat → Nat → Int32} {J : Nat → Nat → Int64} {D : Nat → Nat → UInt64} {R : Nat → Nat → Option Nat} {t : Nat} {σ9 : Shp} {I9 : Nat → Nat → Int32} {J9 : Nat → Nat → Int64} {D9 : Nat → Nat → UInt64} {R9 : Nat → Nat → Option Nat} {s0 : Nat} {s1 : Nat} (h : fX12_init_b301 t σ I J D R s0 s1 = some (σ9, I9, J9, D9, R9)) : WX12_init G l σ0 (σ9, I9, J9, D9, R9) none (σ, I, J, D, R) 301 [(0, vR (some t))] [vR (some s1), vR (some s0)] := by
  unfold fX12_init_b301 at h
  obtain ⟨g104, h⟩ := gd h
  refine r_putRF (pc := 301) dX12_init_301 fwX12_119 rfl rfl g104 ?_
  refine r_aload_n (pc := 304) dX12_init_304 rfl 0 rfl ?_
  refine r_sipush (pc := 305) dX12_init_305 kc_sipush_400 ?_
  refine r_newa (pc := 308) (t := 20) (ti := 0) (ty := .int) dX12_init_308 rfl (by decide) ac20 (by decide) (by decide) (Nat.sub_le_sub_right (mX12_init_b310 h).1 _) (Nat.sub_le_sub_right (mX12_init_b310 h).2 _) ?_
  refine r_sub [0] rfl ?_
  exact wX12_init_b310 h
def fX12_init_b292  (t : Nat) (σ : Shp) (I : Nat → Nat → Int32) (J : Nat → Nat → Int64) (D : Nat → Nat → UInt64) (R : Nat → Nat → Option Nat) (s0 : Nat) (s1 : Nat) : Option ((Shp) × (Nat → Nat → Int32) × (Nat → Nat → Int64) × (Nat → Nat → UInt64) × (Nat → Nat → Option Nat)) :=
  if kdx σ s0 = 13 then
  let R102 := u2 R s0 48 (some s1)
  let σ103 := mkA σ 20 (Int32.toNatClampNeg (400 : Int32))
  fX12_init_b301 t σ103 I J D R102 t (nxx σ + 4)
  else none
theorem mX12_init_b292 {σ : Shp} {I : Nat → Nat → Int32} {J : Nat → Nat → Int64} {D : Nat → Nat → UInt64} {R : Nat → Nat → Option Nat} {t : Nat} {σ9 : Shp} {I9 : Nat → Nat → Int32} {J9 : Nat → Nat → Int64} {D9 : Nat → Nat → UInt64} {R9 : Nat → Nat → Option Nat} {s0 : Nat} {s1 : Nat} (h : fX12_init_b292 t σ I J D R s0 s1 = some (σ9, I9, J9, D9, R9)) : Lex σ σ9 := by
  unfold fX12_init_b292 at h
  replace h := (gd h).2
  exact Lex_mkA (mX12_init_b301 h)
theorem wX12_init_b292 {G : Gx} {l : Launch} {σ0 : Shp} {σ : Shp} {I : Nat → Nat → Int32} {J : Nat → Nat → Int64} {D : Nat → Nat → UInt64} {R : Nat → Nat → Option Nat} {t : Nat} {σ9 : Shp} {I9 : Nat → Nat → Int32} {J9 : Nat → Nat → Int64} {D9 : Nat → Nat → UInt64} {R9 : Nat → Nat → Option Nat} {s0 : Nat} {s1 : Nat} (h : fX12_init_b292 t σ I J D R s0 s1 = some (σ9, I9, J9, D9, R9)) : WX12_init G l σ0 (σ9, I9, J9, D9, R9) none (σ, I, J, D, R) 292 [(0, vR (some t))] [vR (some s1), vR (some s0)] := by
  unfold fX12_init_b292 at h
  obtain ⟨g101, h⟩ := gd h
  refine r_putRF (pc := 292) dX12_init_292 fwX12_116 rfl rfl g101 ?_
  refine r_aload_n (pc := 295) dX12_init_295 rfl 0 rfl ?_
  refine r_sipush (pc := 296) dX12_init_296 kc_sipush_400 ?_
  refine r_newa (pc := 299) (t := 20) (ti := 0) (ty := .int) dX12_init_299 rfl (by decide) ac20 (by decide) (by decide) (Nat.sub_le_sub_right (mX12_init_b301 h).1 _) (Nat.sub_le_sub_right (mX12_init_b301 h).2 _) ?_
  refine r_sub [0] rfl ?_
  exact wX12_init_b301 h
def fX12_init_b283  (t : Nat) (σ : Shp) (I : Nat → Nat → Int32) (J : Nat → Nat → Int64) (D : Nat → Nat → UInt64) (R : Nat → Nat → Option Nat) (s0 : Nat) (s1 : Nat) : Option ((Shp) × (Nat → Nat → Int32) × (Nat → Nat → Int64) × (Nat → Nat → UInt64) × (Nat → Nat → Option Nat)) :=
  if kdx σ s0 = 13 then
  let R99 := u2 R s0 47 (some s1)
  let σ100 := mkA σ 20 (Int32.toNatClampNeg (400 : Int32))
  fX12_init_b292 t σ100 I J D R99 t (nxx σ + 4)
  else none
theorem mX12_init_b283 {σ : Shp} {I : Nat → Nat → Int32} {J : Nat → Nat → Int64} {D : Nat → Nat → UInt64} {R : Nat → Nat → Option Nat} {t : Nat} {σ9 : Shp} {I9 : Nat → Nat → Int32} {J9 : Nat → Nat → Int64} {D9 : Nat → Nat → UInt64} {R9 : Nat → Nat → Option Nat} {s0 : Nat} {s1 : Nat} (h : fX12_init_b283 t σ I J D R s0 s1 = some (σ9, I9, J9, D9, R9)) : Lex σ σ9 := by
  unfold fX12_init_b283 at h
  replace h := (gd h).2
  exact Lex_mkA (mX12_init_b292 h)
theorem wX12_init_b283 {G : Gx} {l : Launch} {σ0 : Shp} {σ : Shp} {I : Nat → Nat → Int32} {J : Nat → Nat → Int64} {D : Nat → Nat → UInt64} {R : Nat → Nat → Option Nat} {t : Nat} {σ9 : Shp} {I9 : Nat → Nat → Int32} {J9 : Nat → Nat → Int64} {D9 : Nat → Nat → UInt64} {R9 : Nat → Nat → Option Nat} {s0 : Nat} {s1 : Nat} (h : fX12_init_b283 t σ I J D R s0 s1 = some (σ9, I9, J9, D9, R9)) : WX12_init G l σ0 (σ9, I9, J9, D9, R9) none (σ, I, J, D, R) 283 [(0, vR (some t))] [vR (some s1), vR (some s0)] := by
  unfold fX12_init_b283 at h
  obtain ⟨g98, h⟩ := gd h
  refine r_putRF (pc := 283) dX12_init_283 fwX12_113 rfl rfl g98 ?_
  refine r_aload_n (pc := 286) dX12_init_286 rfl 0 rfl ?_
  refine r_sipush (pc := 287) dX12_init_287 kc_sipush_400 ?_
  refine r_newa (pc := 290) (t := 20) (ti := 0) (ty := .int) dX12_init_290 rfl (by decide) ac20 (by decide) (by decide) (Nat.sub_le_sub_right (mX12_init_b292 h).1 _) (Nat.sub_le_sub_right (mX12_init_b292 h).2 _) ?_
  refine r_sub [0] rfl ?_
  exact wX12_init_b292 h
def fX12_init_b274  (t : Nat) (σ : Shp) (I : Nat → Nat → Int32) (J : Nat → Nat → Int64) (D : Nat → Nat → UInt64) (R : Nat → Nat → Option Nat) (s0 : Nat) (s1 : Nat) : Option ((Shp) × (Nat → Nat → Int32) × (Nat → Nat → Int64) × (Nat → Nat → UInt64) × (Nat → Nat → Option Nat)) :=
  if kdx σ s0 = 13 then
  let R96 := u2 R s0 46 (some s1)
  let σ97 := mkA σ 20 (Int32.toNatClampNeg (400 : Int32))
  fX12_init_b283 t σ97 I J D R96 t (nxx σ + 4)
  else none
theorem mX12_init_b274 {σ : Shp} {I : Nat → Nat → Int32} {J : Nat → Nat → Int64} {D : Nat → Nat → UInt64} {R : Nat → Nat → Option Nat} {t : Nat} {σ9 : Shp} {I9 : Nat → Nat → Int32} {J9 : Nat → Nat → Int64} {D9 : Nat → Nat → UInt64} {R9 : Nat → Nat → Option Nat} {s0 : Nat} {s1 : Nat} (h : fX12_init_b274 t σ I J D R s0 s1 = some (σ9, I9, J9, D9, R9)) : Lex σ σ9 := by
  unfold fX12_init_b274 at h
  replace h := (gd h).2
  exact Lex_mkA (mX12_init_b283 h)
theorem wX12_init_b274 {G : Gx} {l : Launch} {σ0 : Shp} {σ : Shp} {I : Nat → Nat → Int32} {J : Nat → Nat → Int64} {D : Nat → Nat → UInt64} {R : Nat → Nat → Option Nat} {t : Nat} {σ9 : Shp} {I9 : Nat → Nat → Int32} {J9 : Nat → Nat → Int64} {D9 : Nat → Nat → UInt64} {R9 : Nat → Nat → Option Nat} {s0 : Nat} {s1 : Nat} (h : fX12_init_b274 t σ I J D R s0 s1 = some (σ9, I9, J9, D9, R9)) : WX12_init G l σ0 (σ9, I9, J9, D9, R9) none (σ, I, J, D, R) 274 [(0, vR (some t))] [vR (some s1), vR (some s0)] := by
  unfold fX12_init_b274 at h
  obtain ⟨g95, h⟩ := gd h
  refine r_putRF (pc := 274) dX12_init_274 fwX12_110 rfl rfl g95 ?_
  refine r_aload_n (pc := 277) dX12_init_277 rfl 0 rfl ?_
  refine r_sipush (pc := 278) dX12_init_278 kc_sipush_400 ?_
  refine r_newa (pc := 281) (t := 20) (ti := 0) (ty := .int) dX12_init_281 rfl (by decide) ac20 (by decide) (by decide) (Nat.sub_le_sub_right (mX12_init_b283 h).1 _) (Nat.sub_le_sub_right (mX12_init_b283 h).2 _) ?_
  refine r_sub [0] rfl ?_
  exact wX12_init_b283 h
def fX12_init_b265  (t : Nat) (σ : Shp) (I : Nat → Nat → Int32) (J : Nat → Nat → Int64) (D : Nat → Nat → UInt64) (R : Nat → Nat → Option Nat) (s0 : Nat) (s1 : Nat) : Option ((Shp) × (Nat → Nat → Int32) × (Nat → Nat → Int64) × (Nat → Nat → UInt64) × (Nat → Nat → Option Nat)) :=
  if kdx σ s0 = 13 then
  let R93 := u2 R s0 45 (some s1)
  let σ94 := mkA σ 20 (Int32.toNatClampNeg (400 : Int32))
  fX12_init_b274 t σ94 I J D R93 t (nxx σ + 4)
  else none
theorem mX12_init_b265 {σ : Shp} {I : Nat → Nat → Int32} {J : Nat → Nat → Int64} {D : Nat → Nat → UInt64} {R : Nat → Nat → Option Nat} {t : Nat} {σ9 : Shp} {I9 : Nat → Nat → Int32} {J9 : Nat → Nat → Int64} {D9 : Nat → Nat → UInt64} {R9 : Nat → Nat → Option Nat} {s0 : Nat} {s1 : Nat} (h : fX12_init_b265 t σ I J D R s0 s1 = some (σ9, I9, J9, D9, R9)) : Lex σ σ9 := by
  unfold fX12_init_b265 at h
  replace h := (gd h).2
  exact Lex_mkA (mX12_init_b274 h)
theorem wX12_init_b265 {G : Gx} {l : Launch} {σ0 : Shp} {σ : Shp} {I : Nat → Nat → Int32} {J : Nat → Nat → Int64} {D : Nat → Nat → UInt64} {R : Nat → Nat → Option Nat} {t : Nat} {σ9 : Shp} {I9 : Nat → Nat → Int32} {J9 : Nat → Nat → Int64} {D9 : Nat → Nat → UInt64} {R9 : Nat → Nat → Option Nat} {s0 : Nat} {s1 : Nat} (h : fX12_init_b265 t σ I J D R s0 s1 = some (σ9, I9, J9, D9, R9)) : WX12_init G l σ0 (σ9, I9, J9, D9, R9) none (σ, I, J, D, R) 265 [(0, vR (some t))] [vR (some s1), vR (some s0)] := by
  unfold fX12_init_b265 at h
  obtain ⟨g92, h⟩ := gd h
  refine r_putRF (pc := 265) dX12_init_265 fwX12_107 rfl rfl g92 ?_
  refine r_aload_n (pc := 268) dX12_init_268 rfl 0 rfl ?_
  refine r_sipush (pc := 269) dX12_init_269 kc_sipush_400 ?_
  refine r_newa (pc := 272) (t := 20) (ti := 0) (ty := .int) dX12_init_272 rfl (by decide) ac20 (by decide) (by decide) (Nat.sub_le_sub_right (mX12_init_b274 h).1 _) (Nat.sub_le_sub_right (mX12_init_b274 h).2 _) ?_
  refine r_sub [0] rfl ?_
  exact wX12_init_b274 h
def fX12_init_b256  (t : Nat) (σ : Shp) (I : Nat → Nat → Int32) (J : Nat → Nat → Int64) (D : Nat → Nat → UInt64) (R : Nat → Nat → Option Nat) (s0 : Nat) (s1 : Nat) : Option ((Shp) × (Nat → Nat → Int32) × (Nat → Nat → Int64) × (Nat → Nat → UInt64) × (Nat → Nat → Option Nat)) :=
  if kdx σ s0 = 13 then
  let R90 := u2 R s0 44 (some s1)
  let σ91 := mkA σ 20 (Int32.toNatClampNeg (400 : Int32))
  fX12_init_b265 t σ91 I J D R90 t (nxx σ + 4)
  else none
theorem mX12_init_b256 {σ : Shp} {I : Nat → Nat → Int32} {J : Nat → Nat → Int64} {D : Nat → Nat → UInt64} {R : Nat → Nat → Option Nat} {t : Nat} {σ9 : Shp} {I9 : Nat → Nat → Int32} {J9 : Nat → Nat → Int64} {D9 : Nat → Nat → UInt64} {R9 : Nat → Nat → Option Nat} {s0 : Nat} {s1 : Nat} (h : fX12_init_b256 t σ I J D R s0 s1 = some (σ9, I9, J9, D9, R9)) : Lex σ σ9 := by
  unfold fX12_init_b256 at h
  replace h := (gd h).2
  exact Lex_mkA (mX12_init_b265 h)
theorem wX12_init_b256 {G : Gx} {l : Launch} {σ0 : Shp} {σ : Shp} {I : Nat → Nat → Int32} {J : Nat → Nat → Int64} {D : Nat → Nat → UInt64} {R : Nat → Nat → Option Nat} {t : Nat} {σ9 : Shp} {I9 : Nat → Nat → Int32} {J9 : Nat → Nat → Int64} {D9 : Nat → Nat → UInt64} {R9 : Nat → Nat → Option Nat} {s0 : Nat} {s1 : Nat} (h : fX12_init_b256 t σ I J D R s0 s1 = some (σ9, I9, J9, D9, R9)) : WX12_init G l σ0 (σ9, I9, J9, D9, R9) none (σ, I, J, D, R) 256 [(0, vR (some t))] [vR (some s1), vR (some s0)] := by
  unfold fX12_init_b256 at h
  obtain ⟨g89, h⟩ := gd h
  refine r_putRF (pc := 256) dX12_init_256 fwX12_104 rfl rfl g89 ?_
  refine r_aload_n (pc := 259) dX12_init_259 rfl 0 rfl ?_
  refine r_sipush (pc := 260) dX12_init_260 kc_sipush_400 ?_
  refine r_newa (pc := 263) (t := 20) (ti := 0) (ty := .int) dX12_init_263 rfl (by decide) ac20 (by decide) (by decide) (Nat.sub_le_sub_right (mX12_init_b265 h).1 _) (Nat.sub_le_sub_right (mX12_init_b265 h).2 _) ?_
  refine r_sub [0] rfl ?_
  exact wX12_init_b265 h
def fX12_init_b247  (t : Nat) (σ : Shp) (I : Nat → Nat → Int32) (J : Nat → Nat → Int64) (D : Nat → Nat → UInt64) (R : Nat → Nat → Option Nat) (s0 : Nat) (s1 : Nat) : Option ((Shp) × (Nat → Nat → Int32) × (Nat → Nat → Int64) × (Nat → Nat → UInt64) × (Nat → Nat → Option Nat)) :=
  if kdx σ s0 = 13 then
  let R87 := u2 R s0 43 (some s1)
  let σ88 := mkA σ 20 (Int32.toNatClampNeg (400 : Int32))
  fX12_init_b256 t σ88 I J D R87 t (nxx σ + 4)
  else none
theorem mX12_init_b247 {σ : Shp} {I : Nat → Nat → Int32} {J : Nat → Nat → Int64} {D : Nat → Nat → UInt64} {R : Nat → Nat → Option Nat} {t : Nat} {σ9 : Shp} {I9 : Nat → Nat → Int32} {J9 : Nat → Nat → Int64} {D9 : Nat → Nat → UInt64} {R9 : Nat → Nat → Option Nat} {s0 : Nat} {s1 : Nat} (h : fX12_init_b247 t σ I J D R s0 s1 = some (σ9, I9, J9, D9, R9)) : Lex σ σ9 := by
  unfold fX12_init_b247 at h
  replace h := (gd h).2
  exact Lex_mkA (mX12_init_b256 h)
theorem wX12_init_b247 {G : Gx} {l : Launch} {σ0 : Shp} {σ : Shp} {I : Nat → Nat → Int32} {J : Nat → Nat → Int64} {D : Nat → Nat → UInt64} {R : Nat → Nat → Option Nat} {t : Nat} {σ9 : Shp} {I9 : Nat → Nat → Int32} {J9 : Nat → Nat → Int64} {D9 : Nat → Nat → UInt64} {R9 : Nat → Nat → Option Nat} {s0 : Nat} {s1 : Nat} (h : fX12_init_b247 t σ I J D R s0 s1 = some (σ9, I9, J9, D9, R9)) : WX12_init G l σ0 (σ9, I9, J9, D9, R9) none (σ, I, J, D, R) 247 [(0, vR (some t))] [vR (some s1), vR (some s0)] := by
  unfold fX12_init_b247 at h
  obtain ⟨g86, h⟩ := gd h
  refine r_putRF (pc := 247) dX12_init_247 fwX12_101 rfl rfl g86 ?_
  refine r_aload_n (pc := 250) dX12_init_250 rfl 0 rfl ?_
  refine r_sipush (pc := 251) dX12_init_251 kc_sipush_400 ?_
  refine r_newa (pc := 254) (t := 20) (ti := 0) (ty := .int) dX12_init_254 rfl (by decide) ac20 (by decide) (by decide) (Nat.sub_le_sub_right (mX12_init_b256 h).1 _) (Nat.sub_le_sub_right (mX12_init_b256 h).2 _) ?_
  refine r_sub [0] rfl ?_
  exact wX12_init_b256 h
def fX12_init_b238  (t : Nat) (σ : Shp) (I : Nat → Nat → Int32) (J : Nat → Nat → Int64) (D : Nat → Nat → UInt64) (R : Nat → Nat → Option Nat) (s0 : Nat) (s1 : Nat) : Option ((Shp) × (Nat → Nat → Int32) × (Nat → Nat → Int64) × (Nat → Nat → UInt64) × (Nat → Nat → Option Nat)) :=
  if kdx σ s0 = 13 then
  let R84 := u2 R s0 41 (some s1)
  let σ85 := mkA σ 20 (Int32.toNatClampNeg (400 : Int32))
  fX12_init_b247 t σ85 I J D R84 t (nxx σ + 4)
  else none
theorem mX12_init_b238 {σ : Shp} {I : Nat → Nat → Int32} {J : Nat → Nat → Int64} {D : Nat → Nat → UInt64} {R : Nat → Nat → Option Nat} {t : Nat} {σ9 : Shp} {I9 : Nat → Nat → Int32} {J9 : Nat → Nat → Int64} {D9 : Nat → Nat → UInt64} {R9 : Nat → Nat → Option Nat} {s0 : Nat} {s1 : Nat} (h : fX12_init_b238 t σ I J D R s0 s1 = some (σ9, I9, J9, D9, R9)) : Lex σ σ9 := by
  unfold fX12_init_b238 at h
  replace h := (gd h).2
  exact Lex_mkA (mX12_init_b247 h)
theorem wX12_init_b238 {G : Gx} {l : Launch} {σ0 : Shp} {σ : Shp} {I : Nat → Nat → Int32} {J : Nat → Nat → Int64} {D : Nat → Nat → UInt64} {R : Nat → Nat → Option Nat} {t : Nat} {σ9 : Shp} {I9 : Nat → Nat → Int32} {J9 : Nat → Nat → Int64} {D9 : Nat → Nat → UInt64} {R9 : Nat → Nat → Option Nat} {s0 : Nat} {s1 : Nat} (h : fX12_init_b238 t σ I J D R s0 s1 = some (σ9, I9, J9, D9, R9)) : WX12_init G l σ0 (σ9, I9, J9, D9, R9) none (σ, I, J, D, R) 238 [(0, vR (some t))] [vR (some s1), vR (some s0)] := by
  unfold fX12_init_b238 at h
  obtain ⟨g83, h⟩ := gd h
  refine r_putRF (pc := 238) dX12_init_238 fwX12_98 rfl rfl g83 ?_
  refine r_aload_n (pc := 241) dX12_init_241 rfl 0 rfl ?_
  refine r_sipush (pc := 242) dX12_init_242 kc_sipush_400 ?_
  refine r_newa (pc := 245) (t := 20) (ti := 0) (ty := .int) dX12_init_245 rfl (by decide) ac20 (by decide) (by decide) (Nat.sub_le_sub_right (mX12_init_b247 h).1 _) (Nat.sub_le_sub_right (mX12_init_b247 h).2 _) ?_
  refine r_sub [0] rfl ?_
  exact wX12_init_b247 h
def fX12_init_b230  (t : Nat) (σ : Shp) (I : Nat → Nat → Int32) (J : Nat → Nat → Int64) (D : Nat → Nat → UInt64) (R : Nat → Nat → Option Nat) (s0 : Nat) (s1 : Nat) : Option ((Shp) × (Nat → Nat → Int32) × (Nat → Nat → Int64) × (Nat → Nat → UInt64) × (Nat → Nat → Option Nat)) :=
  if kdx σ s0 = 13 then
  let R81 := u2 R s0 40 (some s1)
  let σ82 := mkA σ 20 (Int32.toNatClampNeg (44 : Int32))
  fX12_init_b238 t σ82 I J D R81 t (nxx σ + 4)
  else none
theorem mX12_init_b230 {σ : Shp} {I : Nat → Nat → Int32} {J : Nat → Nat → Int64} {D : Nat → Nat → UInt64} {R : Nat → Nat → Option Nat} {t : Nat} {σ9 : Shp} {I9 : Nat → Nat → Int32} {J9 : Nat → Nat → Int64} {D9 : Nat → Nat → UInt64} {R9 : Nat → Nat → Option Nat} {s0 : Nat} {s1 : Nat} (h : fX12_init_b230 t σ I J D R s0 s1 = some (σ9, I9, J9, D9, R9)) : Lex σ σ9 := by
  unfold fX12_init_b230 at h
  replace h := (gd h).2
  exact Lex_mkA (mX12_init_b238 h)
theorem wX12_init_b230 {G : Gx} {l : Launch} {σ0 : Shp} {σ : Shp} {I : Nat → Nat → Int32} {J : Nat → Nat → Int64} {D : Nat → Nat → UInt64} {R : Nat → Nat → Option Nat} {t : Nat} {σ9 : Shp} {I9 : Nat → Nat → Int32} {J9 : Nat → Nat → Int64} {D9 : Nat → Nat → UInt64} {R9 : Nat → Nat → Option Nat} {s0 : Nat} {s1 : Nat} (h : fX12_init_b230 t σ I J D R s0 s1 = some (σ9, I9, J9, D9, R9)) : WX12_init G l σ0 (σ9, I9, J9, D9, R9) none (σ, I, J, D, R) 230 [(0, vR (some t))] [vR (some s1), vR (some s0)] := by
  unfold fX12_init_b230 at h
  obtain ⟨g80, h⟩ := gd h
  refine r_putRF (pc := 230) dX12_init_230 fwX12_95 rfl rfl g80 ?_
  refine r_aload_n (pc := 233) dX12_init_233 rfl 0 rfl ?_
  refine r_bipush (pc := 234) dX12_init_234 kc_bipush_44 ?_
  refine r_newa (pc := 236) (t := 20) (ti := 0) (ty := .int) dX12_init_236 rfl (by decide) ac20 (by decide) (by decide) (Nat.sub_le_sub_right (mX12_init_b238 h).1 _) (Nat.sub_le_sub_right (mX12_init_b238 h).2 _) ?_
  refine r_sub [0] rfl ?_
  exact wX12_init_b238 h
def fX12_init_b223  (t : Nat) (σ : Shp) (I : Nat → Nat → Int32) (J : Nat → Nat → Int64) (D : Nat → Nat → UInt64) (R : Nat → Nat → Option Nat) (s0 : Nat) (s1 : Nat) : Option ((Shp) × (Nat → Nat → Int32) × (Nat → Nat → Int64) × (Nat → Nat → UInt64) × (Nat → Nat → Option Nat)) :=
  if kdx σ s0 = 13 then
  let R78 := u2 R s0 39 (some s1)
  let σ79 := mkA σ 20 (Int32.toNatClampNeg (3 : Int32))
  fX12_init_b230 t σ79 I J D R78 t (nxx σ + 4)
  else none
theorem mX12_init_b223 {σ : Shp} {I : Nat → Nat → Int32} {J : Nat → Nat → Int64} {D : Nat → Nat → UInt64} {R : Nat → Nat → Option Nat} {t : Nat} {σ9 : Shp} {I9 : Nat → Nat → Int32} {J9 : Nat → Nat → Int64} {D9 : Nat → Nat → UInt64} {R9 : Nat → Nat → Option Nat} {s0 : Nat} {s1 : Nat} (h : fX12_init_b223 t σ I J D R s0 s1 = some (σ9, I9, J9, D9, R9)) : Lex σ σ9 := by
  unfold fX12_init_b223 at h
  replace h := (gd h).2
  exact Lex_mkA (mX12_init_b230 h)
theorem wX12_init_b223 {G : Gx} {l : Launch} {σ0 : Shp} {σ : Shp} {I : Nat → Nat → Int32} {J : Nat → Nat → Int64} {D : Nat → Nat → UInt64} {R : Nat → Nat → Option Nat} {t : Nat} {σ9 : Shp} {I9 : Nat → Nat → Int32} {J9 : Nat → Nat → Int64} {D9 : Nat → Nat → UInt64} {R9 : Nat → Nat → Option Nat} {s0 : Nat} {s1 : Nat} (h : fX12_init_b223 t σ I J D R s0 s1 = some (σ9, I9, J9, D9, R9)) : WX12_init G l σ0 (σ9, I9, J9, D9, R9) none (σ, I, J, D, R) 223 [(0, vR (some t))] [vR (some s1), vR (some s0)] := by
  unfold fX12_init_b223 at h
  obtain ⟨g77, h⟩ := gd h
  refine r_putRF (pc := 223) dX12_init_223 fwX12_92 rfl rfl g77 ?_
  refine r_aload_n (pc := 226) dX12_init_226 rfl 0 rfl ?_
  refine r_iconst (pc := 227) dX12_init_227 kc_iconst_3 ?_
  refine r_newa (pc := 228) (t := 20) (ti := 0) (ty := .int) dX12_init_228 rfl (by decide) ac20 (by decide) (by decide) (Nat.sub_le_sub_right (mX12_init_b230 h).1 _) (Nat.sub_le_sub_right (mX12_init_b230 h).2 _) ?_
  refine r_sub [0] rfl ?_
  exact wX12_init_b230 h
def fX12_init_b216  (t : Nat) (σ : Shp) (I : Nat → Nat → Int32) (J : Nat → Nat → Int64) (D : Nat → Nat → UInt64) (R : Nat → Nat → Option Nat) (s0 : Nat) (s1 : Nat) : Option ((Shp) × (Nat → Nat → Int32) × (Nat → Nat → Int64) × (Nat → Nat → UInt64) × (Nat → Nat → Option Nat)) :=
  if kdx σ s0 = 13 then
  let R75 := u2 R s0 38 (some s1)
  let σ76 := mkA σ 20 (Int32.toNatClampNeg (3 : Int32))
  fX12_init_b223 t σ76 I J D R75 t (nxx σ + 4)
  else none
theorem mX12_init_b216 {σ : Shp} {I : Nat → Nat → Int32} {J : Nat → Nat → Int64} {D : Nat → Nat → UInt64} {R : Nat → Nat → Option Nat} {t : Nat} {σ9 : Shp} {I9 : Nat → Nat → Int32} {J9 : Nat → Nat → Int64} {D9 : Nat → Nat → UInt64} {R9 : Nat → Nat → Option Nat} {s0 : Nat} {s1 : Nat} (h : fX12_init_b216 t σ I J D R s0 s1 = some (σ9, I9, J9, D9, R9)) : Lex σ σ9 := by
  unfold fX12_init_b216 at h
  replace h := (gd h).2
  exact Lex_mkA (mX12_init_b223 h)
theorem wX12_init_b216 {G : Gx} {l : Launch} {σ0 : Shp} {σ : Shp} {I : Nat → Nat → Int32} {J : Nat → Nat → Int64} {D : Nat → Nat → UInt64} {R : Nat → Nat → Option Nat} {t : Nat} {σ9 : Shp} {I9 : Nat → Nat → Int32} {J9 : Nat → Nat → Int64} {D9 : Nat → Nat → UInt64} {R9 : Nat → Nat → Option Nat} {s0 : Nat} {s1 : Nat} (h : fX12_init_b216 t σ I J D R s0 s1 = some (σ9, I9, J9, D9, R9)) : WX12_init G l σ0 (σ9, I9, J9, D9, R9) none (σ, I, J, D, R) 216 [(0, vR (some t))] [vR (some s1), vR (some s0)] := by
  unfold fX12_init_b216 at h
  obtain ⟨g74, h⟩ := gd h
  refine r_putRF (pc := 216) dX12_init_216 fwX12_89 rfl rfl g74 ?_
  refine r_aload_n (pc := 219) dX12_init_219 rfl 0 rfl ?_
  refine r_iconst (pc := 220) dX12_init_220 kc_iconst_3 ?_
  refine r_newa (pc := 221) (t := 20) (ti := 0) (ty := .int) dX12_init_221 rfl (by decide) ac20 (by decide) (by decide) (Nat.sub_le_sub_right (mX12_init_b223 h).1 _) (Nat.sub_le_sub_right (mX12_init_b223 h).2 _) ?_
  refine r_sub [0] rfl ?_
  exact wX12_init_b223 h
def fX12_init_b208  (t : Nat) (σ : Shp) (I : Nat → Nat → Int32) (J : Nat → Nat → Int64) (D : Nat → Nat → UInt64) (R : Nat → Nat → Option Nat) (s0 : Nat) (s1 : Nat) : Option ((Shp) × (Nat → Nat → Int32) × (Nat → Nat → Int64) × (Nat → Nat → UInt64) × (Nat → Nat → Option Nat)) :=
  if kdx σ s0 = 13 then
  let R72 := u2 R s0 37 (some s1)
  let σ73 := mkA σ 21 (Int32.toNatClampNeg (6 : Int32))
  fX12_init_b216 t σ73 I J D R72 t (nxx σ + 4)
  else none
theorem mX12_init_b208 {σ : Shp} {I : Nat → Nat → Int32} {J : Nat → Nat → Int64} {D : Nat → Nat → UInt64} {R : Nat → Nat → Option Nat} {t : Nat} {σ9 : Shp} {I9 : Nat → Nat → Int32} {J9 : Nat → Nat → Int64} {D9 : Nat → Nat → UInt64} {R9 : Nat → Nat → Option Nat} {s0 : Nat} {s1 : Nat} (h : fX12_init_b208 t σ I J D R s0 s1 = some (σ9, I9, J9, D9, R9)) : Lex σ σ9 := by
  unfold fX12_init_b208 at h
  replace h := (gd h).2
  exact Lex_mkA (mX12_init_b216 h)
theorem wX12_init_b208 {G : Gx} {l : Launch} {σ0 : Shp} {σ : Shp} {I : Nat → Nat → Int32} {J : Nat → Nat → Int64} {D : Nat → Nat → UInt64} {R : Nat → Nat → Option Nat} {t : Nat} {σ9 : Shp} {I9 : Nat → Nat → Int32} {J9 : Nat → Nat → Int64} {D9 : Nat → Nat → UInt64} {R9 : Nat → Nat → Option Nat} {s0 : Nat} {s1 : Nat} (h : fX12_init_b208 t σ I J D R s0 s1 = some (σ9, I9, J9, D9, R9)) : WX12_init G l σ0 (σ9, I9, J9, D9, R9) none (σ, I, J, D, R) 208 [(0, vR (some t))] [vR (some s1), vR (some s0)] := by
  unfold fX12_init_b208 at h
  obtain ⟨g71, h⟩ := gd h
  refine r_putRF (pc := 208) dX12_init_208 fwX12_86 rfl rfl g71 ?_
  refine r_aload_n (pc := 211) dX12_init_211 rfl 0 rfl ?_
  refine r_bipush (pc := 212) dX12_init_212 kc_bipush_6 ?_
  refine r_newa (pc := 214) (t := 21) (ti := 1) (ty := .long) dX12_init_214 rfl (by decide) ac21 (by decide) (by decide) (Nat.sub_le_sub_right (mX12_init_b216 h).1 _) (Nat.sub_le_sub_right (mX12_init_b216 h).2 _) ?_
  refine r_sub [0] rfl ?_
  exact wX12_init_b216 h
def fX12_init_b199  (t : Nat) (σ : Shp) (I : Nat → Nat → Int32) (J : Nat → Nat → Int64) (D : Nat → Nat → UInt64) (R : Nat → Nat → Option Nat) (s0 : Nat) (s1 : Nat) : Option ((Shp) × (Nat → Nat → Int32) × (Nat → Nat → Int64) × (Nat → Nat → UInt64) × (Nat → Nat → Option Nat)) :=
  if kdx σ s0 = 13 then
  let R69 := u2 R s0 36 (some s1)
  let σ70 := mkA σ 20 (Int32.toNatClampNeg (160 : Int32))
  fX12_init_b208 t σ70 I J D R69 t (nxx σ + 4)
  else none
theorem mX12_init_b199 {σ : Shp} {I : Nat → Nat → Int32} {J : Nat → Nat → Int64} {D : Nat → Nat → UInt64} {R : Nat → Nat → Option Nat} {t : Nat} {σ9 : Shp} {I9 : Nat → Nat → Int32} {J9 : Nat → Nat → Int64} {D9 : Nat → Nat → UInt64} {R9 : Nat → Nat → Option Nat} {s0 : Nat} {s1 : Nat} (h : fX12_init_b199 t σ I J D R s0 s1 = some (σ9, I9, J9, D9, R9)) : Lex σ σ9 := by
  unfold fX12_init_b199 at h
  replace h := (gd h).2
  exact Lex_mkA (mX12_init_b208 h)
theorem wX12_init_b199 {G : Gx} {l : Launch} {σ0 : Shp} {σ : Shp} {I : Nat → Nat → Int32} {J : Nat → Nat → Int64} {D : Nat → Nat → UInt64} {R : Nat → Nat → Option Nat} {t : Nat} {σ9 : Shp} {I9 : Nat → Nat → Int32} {J9 : Nat → Nat → Int64} {D9 : Nat → Nat → UInt64} {R9 : Nat → Nat → Option Nat} {s0 : Nat} {s1 : Nat} (h : fX12_init_b199 t σ I J D R s0 s1 = some (σ9, I9, J9, D9, R9)) : WX12_init G l σ0 (σ9, I9, J9, D9, R9) none (σ, I, J, D, R) 199 [(0, vR (some t))] [vR (some s1), vR (some s0)] := by
  unfold fX12_init_b199 at h
  obtain ⟨g68, h⟩ := gd h
  refine r_putRF (pc := 199) dX12_init_199 fwX12_83 rfl rfl g68 ?_
  refine r_aload_n (pc := 202) dX12_init_202 rfl 0 rfl ?_
  refine r_sipush (pc := 203) dX12_init_203 kc_sipush_160 ?_
  refine r_newa (pc := 206) (t := 20) (ti := 0) (ty := .int) dX12_init_206 rfl (by decide) ac20 (by decide) (by decide) (Nat.sub_le_sub_right (mX12_init_b208 h).1 _) (Nat.sub_le_sub_right (mX12_init_b208 h).2 _) ?_
  refine r_sub [0] rfl ?_
  exact wX12_init_b208 h
def fX12_init_b190  (t : Nat) (σ : Shp) (I : Nat → Nat → Int32) (J : Nat → Nat → Int64) (D : Nat → Nat → UInt64) (R : Nat → Nat → Option Nat) (s0 : Nat) (s1 : Nat) : Option ((Shp) × (Nat → Nat → Int32) × (Nat → Nat → Int64) × (Nat → Nat → UInt64) × (Nat → Nat → Option Nat)) :=
  if kdx σ s0 = 13 then
  let R66 := u2 R s0 35 (some s1)
  let σ67 := mkA σ 20 (Int32.toNatClampNeg (160 : Int32))
  fX12_init_b199 t σ67 I J D R66 t (nxx σ + 4)
  else none
theorem mX12_init_b190 {σ : Shp} {I : Nat → Nat → Int32} {J : Nat → Nat → Int64} {D : Nat → Nat → UInt64} {R : Nat → Nat → Option Nat} {t : Nat} {σ9 : Shp} {I9 : Nat → Nat → Int32} {J9 : Nat → Nat → Int64} {D9 : Nat → Nat → UInt64} {R9 : Nat → Nat → Option Nat} {s0 : Nat} {s1 : Nat} (h : fX12_init_b190 t σ I J D R s0 s1 = some (σ9, I9, J9, D9, R9)) : Lex σ σ9 := by
  unfold fX12_init_b190 at h
  replace h := (gd h).2
  exact Lex_mkA (mX12_init_b199 h)
theorem wX12_init_b190 {G : Gx} {l : Launch} {σ0 : Shp} {σ : Shp} {I : Nat → Nat → Int32} {J : Nat → Nat → Int64} {D : Nat → Nat → UInt64} {R : Nat → Nat → Option Nat} {t : Nat} {σ9 : Shp} {I9 : Nat → Nat → Int32} {J9 : Nat → Nat → Int64} {D9 : Nat → Nat → UInt64} {R9 : Nat → Nat → Option Nat} {s0 : Nat} {s1 : Nat} (h : fX12_init_b190 t σ I J D R s0 s1 = some (σ9, I9, J9, D9, R9)) : WX12_init G l σ0 (σ9, I9, J9, D9, R9) none (σ, I, J, D, R) 190 [(0, vR (some t))] [vR (some s1), vR (some s0)] := by
  unfold fX12_init_b190 at h
  obtain ⟨g65, h⟩ := gd h
  refine r_putRF (pc := 190) dX12_init_190 fwX12_80 rfl rfl g65 ?_
  refine r_aload_n (pc := 193) dX12_init_193 rfl 0 rfl ?_
  refine r_sipush (pc := 194) dX12_init_194 kc_sipush_160 ?_
  refine r_newa (pc := 197) (t := 20) (ti := 0) (ty := .int) dX12_init_197 rfl (by decide) ac20 (by decide) (by decide) (Nat.sub_le_sub_right (mX12_init_b199 h).1 _) (Nat.sub_le_sub_right (mX12_init_b199 h).2 _) ?_
  refine r_sub [0] rfl ?_
  exact wX12_init_b199 h
def fX12_init_b181  (t : Nat) (σ : Shp) (I : Nat → Nat → Int32) (J : Nat → Nat → Int64) (D : Nat → Nat → UInt64) (R : Nat → Nat → Option Nat) (s0 : Nat) (s1 : Nat) : Option ((Shp) × (Nat → Nat → Int32) × (Nat → Nat → Int64) × (Nat → Nat → UInt64) × (Nat → Nat → Option Nat)) :=
  if kdx σ s0 = 13 then
  let R63 := u2 R s0 34 (some s1)
  let σ64 := mkA σ 20 (Int32.toNatClampNeg (160 : Int32))
  fX12_init_b190 t σ64 I J D R63 t (nxx σ + 4)
  else none
theorem mX12_init_b181 {σ : Shp} {I : Nat → Nat → Int32} {J : Nat → Nat → Int64} {D : Nat → Nat → UInt64} {R : Nat → Nat → Option Nat} {t : Nat} {σ9 : Shp} {I9 : Nat → Nat → Int32} {J9 : Nat → Nat → Int64} {D9 : Nat → Nat → UInt64} {R9 : Nat → Nat → Option Nat} {s0 : Nat} {s1 : Nat} (h : fX12_init_b181 t σ I J D R s0 s1 = some (σ9, I9, J9, D9, R9)) : Lex σ σ9 := by
  unfold fX12_init_b181 at h
  replace h := (gd h).2
  exact Lex_mkA (mX12_init_b190 h)
theorem wX12_init_b181 {G : Gx} {l : Launch} {σ0 : Shp} {σ : Shp} {I : Nat → Nat → Int32} {J : Nat → Nat → Int64} {D : Nat → Nat → UInt64} {R : Nat → Nat → Option Nat} {t : Nat} {σ9 : Shp} {I9 : Nat → Nat → Int32} {J9 : Nat → Nat → Int64} {D9 : Nat → Nat → UInt64} {R9 : Nat → Nat → Option Nat} {s0 : Nat} {s1 : Nat} (h : fX12_init_b181 t σ I J D R s0 s1 = some (σ9, I9, J9, D9, R9)) : WX12_init G l σ0 (σ9, I9, J9, D9, R9) none (σ, I, J, D, R) 181 [(0, vR (some t))] [vR (some s1), vR (some s0)] := by
  unfold fX12_init_b181 at h
  obtain ⟨g62, h⟩ := gd h
  refine r_putRF (pc := 181) dX12_init_181 fwX12_77 rfl rfl g62 ?_
  refine r_aload_n (pc := 184) dX12_init_184 rfl 0 rfl ?_
  refine r_sipush (pc := 185) dX12_init_185 kc_sipush_160 ?_
  refine r_newa (pc := 188) (t := 20) (ti := 0) (ty := .int) dX12_init_188 rfl (by decide) ac20 (by decide) (by decide) (Nat.sub_le_sub_right (mX12_init_b190 h).1 _) (Nat.sub_le_sub_right (mX12_init_b190 h).2 _) ?_
  refine r_sub [0] rfl ?_
  exact wX12_init_b190 h
def fX12_init_b172  (t : Nat) (σ : Shp) (I : Nat → Nat → Int32) (J : Nat → Nat → Int64) (D : Nat → Nat → UInt64) (R : Nat → Nat → Option Nat) (s0 : Nat) (s1 : Nat) : Option ((Shp) × (Nat → Nat → Int32) × (Nat → Nat → Int64) × (Nat → Nat → UInt64) × (Nat → Nat → Option Nat)) :=
  if kdx σ s0 = 13 then
  let R60 := u2 R s0 33 (some s1)
  let σ61 := mkA σ 20 (Int32.toNatClampNeg (160 : Int32))
  fX12_init_b181 t σ61 I J D R60 t (nxx σ + 4)
  else none
theorem mX12_init_b172 {σ : Shp} {I : Nat → Nat → Int32} {J : Nat → Nat → Int64} {D : Nat → Nat → UInt64} {R : Nat → Nat → Option Nat} {t : Nat} {σ9 : Shp} {I9 : Nat → Nat → Int32} {J9 : Nat → Nat → Int64} {D9 : Nat → Nat → UInt64} {R9 : Nat → Nat → Option Nat} {s0 : Nat} {s1 : Nat} (h : fX12_init_b172 t σ I J D R s0 s1 = some (σ9, I9, J9, D9, R9)) : Lex σ σ9 := by
  unfold fX12_init_b172 at h
  replace h := (gd h).2
  exact Lex_mkA (mX12_init_b181 h)
theorem wX12_init_b172 {G : Gx} {l : Launch} {σ0 : Shp} {σ : Shp} {I : Nat → Nat → Int32} {J : Nat → Nat → Int64} {D : Nat → Nat → UInt64} {R : Nat → Nat → Option Nat} {t : Nat} {σ9 : Shp} {I9 : Nat → Nat → Int32} {J9 : Nat → Nat → Int64} {D9 : Nat → Nat → UInt64} {R9 : Nat → Nat → Option Nat} {s0 : Nat} {s1 : Nat} (h : fX12_init_b172 t σ I J D R s0 s1 = some (σ9, I9, J9, D9, R9)) : WX12_init G l σ0 (σ9, I9, J9, D9, R9) none (σ, I, J, D, R) 172 [(0, vR (some t))] [vR (some s1), vR (some s0)] := by
  unfold fX12_init_b172 at h
  obtain ⟨g59, h⟩ := gd h
  refine r_putRF (pc := 172) dX12_init_172 fwX12_74 rfl rfl g59 ?_
  refine r_aload_n (pc := 175) dX12_init_175 rfl 0 rfl ?_
  refine r_sipush (pc := 176) dX12_init_176 kc_sipush_160 ?_
  refine r_newa (pc := 179) (t := 20) (ti := 0) (ty := .int) dX12_init_179 rfl (by decide) ac20 (by decide) (by decide) (Nat.sub_le_sub_right (mX12_init_b181 h).1 _) (Nat.sub_le_sub_right (mX12_init_b181 h).2 _) ?_
  refine r_sub [0] rfl ?_
  exact wX12_init_b181 h
def fX12_init_b165  (t : Nat) (σ : Shp) (I : Nat → Nat → Int32) (J : Nat → Nat → Int64) (D : Nat → Nat → UInt64) (R : Nat → Nat → Option Nat) (s0 : Nat) (s1 : Nat) : Option ((Shp) × (Nat → Nat → Int32) × (Nat → Nat → Int64) × (Nat → Nat → UInt64) × (Nat → Nat → Option Nat)) :=
  if kdx σ s0 = 13 then
  let R57 := u2 R s0 31 (some s1)
  let σ58 := mkA σ 20 (Int32.toNatClampNeg (4 : Int32))
  fX12_init_b172 t σ58 I J D R57 t (nxx σ + 4)
  else none
theorem mX12_init_b165 {σ : Shp} {I : Nat → Nat → Int32} {J : Nat → Nat → Int64} {D : Nat → Nat → UInt64} {R : Nat → Nat → Option Nat} {t : Nat} {σ9 : Shp} {I9 : Nat → Nat → Int32} {J9 : Nat → Nat → Int64} {D9 : Nat → Nat → UInt64} {R9 : Nat → Nat → Option Nat} {s0 : Nat} {s1 : Nat} (h : fX12_init_b165 t σ I J D R s0 s1 = some (σ9, I9, J9, D9, R9)) : Lex σ σ9 := by
  unfold fX12_init_b165 at h
  replace h := (gd h).2
  exact Lex_mkA (mX12_init_b172 h)
theorem wX12_init_b165 {G : Gx} {l : Launch} {σ0 : Shp} {σ : Shp} {I : Nat → Nat → Int32} {J : Nat → Nat → Int64} {D : Nat → Nat → UInt64} {R : Nat → Nat → Option Nat} {t : Nat} {σ9 : Shp} {I9 : Nat → Nat → Int32} {J9 : Nat → Nat → Int64} {D9 : Nat → Nat → UInt64} {R9 : Nat → Nat → Option Nat} {s0 : Nat} {s1 : Nat} (h : fX12_init_b165 t σ I J D R s0 s1 = some (σ9, I9, J9, D9, R9)) : WX12_init G l σ0 (σ9, I9, J9, D9, R9) none (σ, I, J, D, R) 165 [(0, vR (some t))] [vR (some s1), vR (some s0)] := by
  unfold fX12_init_b165 at h
  obtain ⟨g56, h⟩ := gd h
  refine r_putRF (pc := 165) dX12_init_165 fwX12_71 rfl rfl g56 ?_
  refine r_aload_n (pc := 168) dX12_init_168 rfl 0 rfl ?_
  refine r_iconst (pc := 169) dX12_init_169 kc_iconst_4 ?_
  refine r_newa (pc := 170) (t := 20) (ti := 0) (ty := .int) dX12_init_170 rfl (by decide) ac20 (by decide) (by decide) (Nat.sub_le_sub_right (mX12_init_b172 h).1 _) (Nat.sub_le_sub_right (mX12_init_b172 h).2 _) ?_
  refine r_sub [0] rfl ?_
  exact wX12_init_b172 h
def fX12_init_b156  (t : Nat) (σ : Shp) (I : Nat → Nat → Int32) (J : Nat → Nat → Int64) (D : Nat → Nat → UInt64) (R : Nat → Nat → Option Nat) (s0 : Nat) (s1 : Nat) : Option ((Shp) × (Nat → Nat → Int32) × (Nat → Nat → Int64) × (Nat → Nat → UInt64) × (Nat → Nat → Option Nat)) :=
  if kdx σ s0 = 13 then
  let R54 := u2 R s0 28 (some s1)
  let σ55 := mkA σ 20 (Int32.toNatClampNeg (4100 : Int32))
  fX12_init_b165 t σ55 I J D R54 t (nxx σ + 4)
  else none
theorem mX12_init_b156 {σ : Shp} {I : Nat → Nat → Int32} {J : Nat → Nat → Int64} {D : Nat → Nat → UInt64} {R : Nat → Nat → Option Nat} {t : Nat} {σ9 : Shp} {I9 : Nat → Nat → Int32} {J9 : Nat → Nat → Int64} {D9 : Nat → Nat → UInt64} {R9 : Nat → Nat → Option Nat} {s0 : Nat} {s1 : Nat} (h : fX12_init_b156 t σ I J D R s0 s1 = some (σ9, I9, J9, D9, R9)) : Lex σ σ9 := by
  unfold fX12_init_b156 at h
  replace h := (gd h).2
  exact Lex_mkA (mX12_init_b165 h)
theorem wX12_init_b156 {G : Gx} {l : Launch} {σ0 : Shp} {σ : Shp} {I : Nat → Nat → Int32} {J : Nat → Nat → Int64} {D : Nat → Nat → UInt64} {R : Nat → Nat → Option Nat} {t : Nat} {σ9 : Shp} {I9 : Nat → Nat → Int32} {J9 : Nat → Nat → Int64} {D9 : Nat → Nat → UInt64} {R9 : Nat → Nat → Option Nat} {s0 : Nat} {s1 : Nat} (h : fX12_init_b156 t σ I J D R s0 s1 = some (σ9, I9, J9, D9, R9)) : WX12_init G l σ0 (σ9, I9, J9, D9, R9) none (σ, I, J, D, R) 156 [(0, vR (some t))] [vR (some s1), vR (some s0)] := by
  unfold fX12_init_b156 at h
  obtain ⟨g53, h⟩ := gd h
  refine r_putRF (pc := 156) dX12_init_156 fwX12_68 rfl rfl g53 ?_
  refine r_aload_n (pc := 159) dX12_init_159 rfl 0 rfl ?_
  refine r_sipush (pc := 160) dX12_init_160 kc_sipush_4100 ?_
  refine r_newa (pc := 163) (t := 20) (ti := 0) (ty := .int) dX12_init_163 rfl (by decide) ac20 (by decide) (by decide) (Nat.sub_le_sub_right (mX12_init_b165 h).1 _) (Nat.sub_le_sub_right (mX12_init_b165 h).2 _) ?_
  refine r_sub [0] rfl ?_
  exact wX12_init_b165 h
def fX12_init_b148  (t : Nat) (σ : Shp) (I : Nat → Nat → Int32) (J : Nat → Nat → Int64) (D : Nat → Nat → UInt64) (R : Nat → Nat → Option Nat) (s0 : Nat) (s1 : Nat) : Option ((Shp) × (Nat → Nat → Int32) × (Nat → Nat → Int64) × (Nat → Nat → UInt64) × (Nat → Nat → Option Nat)) :=
  if kdx σ s0 = 13 then
  let R51 := u2 R s0 27 (some s1)
  let σ52 := mkA σ 20 (Int32.toNatClampNeg (8 : Int32))
  fX12_init_b156 t σ52 I J D R51 t (nxx σ + 4)
  else none
theorem mX12_init_b148 {σ : Shp} {I : Nat → Nat → Int32} {J : Nat → Nat → Int64} {D : Nat → Nat → UInt64} {R : Nat → Nat → Option Nat} {t : Nat} {σ9 : Shp} {I9 : Nat → Nat → Int32} {J9 : Nat → Nat → Int64} {D9 : Nat → Nat → UInt64} {R9 : Nat → Nat → Option Nat} {s0 : Nat} {s1 : Nat} (h : fX12_init_b148 t σ I J D R s0 s1 = some (σ9, I9, J9, D9, R9)) : Lex σ σ9 := by
  unfold fX12_init_b148 at h
  replace h := (gd h).2
  exact Lex_mkA (mX12_init_b156 h)
theorem wX12_init_b148 {G : Gx} {l : Launch} {σ0 : Shp} {σ : Shp} {I : Nat → Nat → Int32} {J : Nat → Nat → Int64} {D : Nat → Nat → UInt64} {R : Nat → Nat → Option Nat} {t : Nat} {σ9 : Shp} {I9 : Nat → Nat → Int32} {J9 : Nat → Nat → Int64} {D9 : Nat → Nat → UInt64} {R9 : Nat → Nat → Option Nat} {s0 : Nat} {s1 : Nat} (h : fX12_init_b148 t σ I J D R s0 s1 = some (σ9, I9, J9, D9, R9)) : WX12_init G l σ0 (σ9, I9, J9, D9, R9) none (σ, I, J, D, R) 148 [(0, vR (some t))] [vR (some s1), vR (some s0)] := by
  unfold fX12_init_b148 at h
  obtain ⟨g50, h⟩ := gd h
  refine r_putRF (pc := 148) dX12_init_148 fwX12_65 rfl rfl g50 ?_
  refine r_aload_n (pc := 151) dX12_init_151 rfl 0 rfl ?_
  refine r_bipush (pc := 152) dX12_init_152 kc_bipush_8 ?_
  refine r_newa (pc := 154) (t := 20) (ti := 0) (ty := .int) dX12_init_154 rfl (by decide) ac20 (by decide) (by decide) (Nat.sub_le_sub_right (mX12_init_b156 h).1 _) (Nat.sub_le_sub_right (mX12_init_b156 h).2 _) ?_
  refine r_sub [0] rfl ?_
  exact wX12_init_b156 h
def fX12_init_b140  (t : Nat) (σ : Shp) (I : Nat → Nat → Int32) (J : Nat → Nat → Int64) (D : Nat → Nat → UInt64) (R : Nat → Nat → Option Nat) (s0 : Nat) (s1 : Nat) : Option ((Shp) × (Nat → Nat → Int32) × (Nat → Nat → Int64) × (Nat → Nat → UInt64) × (Nat → Nat → Option Nat)) :=
  if kdx σ s0 = 13 then
  let R48 := u2 R s0 26 (some s1)
  let σ49 := mkA σ 20 (Int32.toNatClampNeg (8 : Int32))
  fX12_init_b148 t σ49 I J D R48 t (nxx σ + 4)
  else none
theorem mX12_init_b140 {σ : Shp} {I : Nat → Nat → Int32} {J : Nat → Nat → Int64} {D : Nat → Nat → UInt64} {R : Nat → Nat → Option Nat} {t : Nat} {σ9 : Shp} {I9 : Nat → Nat → Int32} {J9 : Nat → Nat → Int64} {D9 : Nat → Nat → UInt64} {R9 : Nat → Nat → Option Nat} {s0 : Nat} {s1 : Nat} (h : fX12_init_b140 t σ I J D R s0 s1 = some (σ9, I9, J9, D9, R9)) : Lex σ σ9 := by
  unfold fX12_init_b140 at h
  replace h := (gd h).2
  exact Lex_mkA (mX12_init_b148 h)
theorem wX12_init_b140 {G : Gx} {l : Launch} {σ0 : Shp} {σ : Shp} {I : Nat → Nat → Int32} {J : Nat → Nat → Int64} {D : Nat → Nat → UInt64} {R : Nat → Nat → Option Nat} {t : Nat} {σ9 : Shp} {I9 : Nat → Nat → Int32} {J9 : Nat → Nat → Int64} {D9 : Nat → Nat → UInt64} {R9 : Nat → Nat → Option Nat} {s0 : Nat} {s1 : Nat} (h : fX12_init_b140 t σ I J D R s0 s1 = some (σ9, I9, J9, D9, R9)) : WX12_init G l σ0 (σ9, I9, J9, D9, R9) none (σ, I, J, D, R) 140 [(0, vR (some t))] [vR (some s1), vR (some s0)] := by
  unfold fX12_init_b140 at h
  obtain ⟨g47, h⟩ := gd h
  refine r_putRF (pc := 140) dX12_init_140 fwX12_62 rfl rfl g47 ?_
  refine r_aload_n (pc := 143) dX12_init_143 rfl 0 rfl ?_
  refine r_bipush (pc := 144) dX12_init_144 kc_bipush_8 ?_
  refine r_newa (pc := 146) (t := 20) (ti := 0) (ty := .int) dX12_init_146 rfl (by decide) ac20 (by decide) (by decide) (Nat.sub_le_sub_right (mX12_init_b148 h).1 _) (Nat.sub_le_sub_right (mX12_init_b148 h).2 _) ?_
  refine r_sub [0] rfl ?_
  exact wX12_init_b148 h
def fX12_init_b132  (t : Nat) (σ : Shp) (I : Nat → Nat → Int32) (J : Nat → Nat → Int64) (D : Nat → Nat → UInt64) (R : Nat → Nat → Option Nat) (s0 : Nat) (s1 : Nat) : Option ((Shp) × (Nat → Nat → Int32) × (Nat → Nat → Int64) × (Nat → Nat → UInt64) × (Nat → Nat → Option Nat)) :=
  if kdx σ s0 = 13 then
  let R45 := u2 R s0 23 (some s1)
  let σ46 := mkA σ 20 (Int32.toNatClampNeg (8 : Int32))
  fX12_init_b140 t σ46 I J D R45 t (nxx σ + 4)
  else none
theorem mX12_init_b132 {σ : Shp} {I : Nat → Nat → Int32} {J : Nat → Nat → Int64} {D : Nat → Nat → UInt64} {R : Nat → Nat → Option Nat} {t : Nat} {σ9 : Shp} {I9 : Nat → Nat → Int32} {J9 : Nat → Nat → Int64} {D9 : Nat → Nat → UInt64} {R9 : Nat → Nat → Option Nat} {s0 : Nat} {s1 : Nat} (h : fX12_init_b132 t σ I J D R s0 s1 = some (σ9, I9, J9, D9, R9)) : Lex σ σ9 := by
  unfold fX12_init_b132 at h
  replace h := (gd h).2
  exact Lex_mkA (mX12_init_b140 h)
theorem wX12_init_b132 {G : Gx} {l : Launch} {σ0 : Shp} {σ : Shp} {I : Nat → Nat → Int32} {J : Nat → Nat → Int64} {D : Nat → Nat → UInt64} {R : Nat → Nat → Option Nat} {t : Nat} {σ9 : Shp} {I9 : Nat → Nat → Int32} {J9 : Nat → Nat → Int64} {D9 : Nat → Nat → UInt64} {R9 : Nat → Nat → Option Nat} {s0 : Nat} {s1 : Nat} (h : fX12_init_b132 t σ I J D R s0 s1 = some (σ9, I9, J9, D9, R9)) : WX12_init G l σ0 (σ9, I9, J9, D9, R9) none (σ, I, J, D, R) 132 [(0, vR (some t))] [vR (some s1), vR (some s0)] := by
  unfold fX12_init_b132 at h
  obtain ⟨g44, h⟩ := gd h
  refine r_putRF (pc := 132) dX12_init_132 fwX12_59 rfl rfl g44 ?_
  refine r_aload_n (pc := 135) dX12_init_135 rfl 0 rfl ?_
  refine r_bipush (pc := 136) dX12_init_136 kc_bipush_8 ?_
  refine r_newa (pc := 138) (t := 20) (ti := 0) (ty := .int) dX12_init_138 rfl (by decide) ac20 (by decide) (by decide) (Nat.sub_le_sub_right (mX12_init_b140 h).1 _) (Nat.sub_le_sub_right (mX12_init_b140 h).2 _) ?_
  refine r_sub [0] rfl ?_
  exact wX12_init_b140 h
def fX12_init_b123  (t : Nat) (σ : Shp) (I : Nat → Nat → Int32) (J : Nat → Nat → Int64) (D : Nat → Nat → UInt64) (R : Nat → Nat → Option Nat) (s0 : Nat) (s1 : Nat) : Option ((Shp) × (Nat → Nat → Int32) × (Nat → Nat → Int64) × (Nat → Nat → UInt64) × (Nat → Nat → Option Nat)) :=
  if kdx σ s0 = 13 then
  let R42 := u2 R s0 21 (some s1)
  let σ43 := mkA σ 20 (Int32.toNatClampNeg (200 : Int32))
  fX12_init_b132 t σ43 I J D R42 t (nxx σ + 4)
  else none
theorem mX12_init_b123 {σ : Shp} {I : Nat → Nat → Int32} {J : Nat → Nat → Int64} {D : Nat → Nat → UInt64} {R : Nat → Nat → Option Nat} {t : Nat} {σ9 : Shp} {I9 : Nat → Nat → Int32} {J9 : Nat → Nat → Int64} {D9 : Nat → Nat → UInt64} {R9 : Nat → Nat → Option Nat} {s0 : Nat} {s1 : Nat} (h : fX12_init_b123 t σ I J D R s0 s1 = some (σ9, I9, J9, D9, R9)) : Lex σ σ9 := by
  unfold fX12_init_b123 at h
  replace h := (gd h).2
  exact Lex_mkA (mX12_init_b132 h)
theorem wX12_init_b123 {G : Gx} {l : Launch} {σ0 : Shp} {σ : Shp} {I : Nat → Nat → Int32} {J : Nat → Nat → Int64} {D : Nat → Nat → UInt64} {R : Nat → Nat → Option Nat} {t : Nat} {σ9 : Shp} {I9 : Nat → Nat → Int32} {J9 : Nat → Nat → Int64} {D9 : Nat → Nat → UInt64} {R9 : Nat → Nat → Option Nat} {s0 : Nat} {s1 : Nat} (h : fX12_init_b123 t σ I J D R s0 s1 = some (σ9, I9, J9, D9, R9)) : WX12_init G l σ0 (σ9, I9, J9, D9, R9) none (σ, I, J, D, R) 123 [(0, vR (some t))] [vR (some s1), vR (some s0)] := by
  unfold fX12_init_b123 at h
  obtain ⟨g41, h⟩ := gd h
  refine r_putRF (pc := 123) dX12_init_123 fwX12_56 rfl rfl g41 ?_
  refine r_aload_n (pc := 126) dX12_init_126 rfl 0 rfl ?_
  refine r_sipush (pc := 127) dX12_init_127 kc_sipush_200 ?_
  refine r_newa (pc := 130) (t := 20) (ti := 0) (ty := .int) dX12_init_130 rfl (by decide) ac20 (by decide) (by decide) (Nat.sub_le_sub_right (mX12_init_b132 h).1 _) (Nat.sub_le_sub_right (mX12_init_b132 h).2 _) ?_
  refine r_sub [0] rfl ?_
  exact wX12_init_b132 h
def fX12_init_b115  (t : Nat) (σ : Shp) (I : Nat → Nat → Int32) (J : Nat → Nat → Int64) (D : Nat → Nat → UInt64) (R : Nat → Nat → Option Nat) (s0 : Nat) (s1 : Nat) : Option ((Shp) × (Nat → Nat → Int32) × (Nat → Nat → Int64) × (Nat → Nat → UInt64) × (Nat → Nat → Option Nat)) :=
  if kdx σ s0 = 13 then
  let R39 := u2 R s0 17 (some s1)
  let σ40 := mkA σ 21 (Int32.toNatClampNeg (40 : Int32))
  fX12_init_b123 t σ40 I J D R39 t (nxx σ + 4)
  else none
theorem mX12_init_b115 {σ : Shp} {I : Nat → Nat → Int32} {J : Nat → Nat → Int64} {D : Nat → Nat → UInt64} {R : Nat → Nat → Option Nat} {t : Nat} {σ9 : Shp} {I9 : Nat → Nat → Int32} {J9 : Nat → Nat → Int64} {D9 : Nat → Nat → UInt64} {R9 : Nat → Nat → Option Nat} {s0 : Nat} {s1 : Nat} (h : fX12_init_b115 t σ I J D R s0 s1 = some (σ9, I9, J9, D9, R9)) : Lex σ σ9 := by
  unfold fX12_init_b115 at h
  replace h := (gd h).2
  exact Lex_mkA (mX12_init_b123 h)
theorem wX12_init_b115 {G : Gx} {l : Launch} {σ0 : Shp} {σ : Shp} {I : Nat → Nat → Int32} {J : Nat → Nat → Int64} {D : Nat → Nat → UInt64} {R : Nat → Nat → Option Nat} {t : Nat} {σ9 : Shp} {I9 : Nat → Nat → Int32} {J9 : Nat → Nat → Int64} {D9 : Nat → Nat → UInt64} {R9 : Nat → Nat → Option Nat} {s0 : Nat} {s1 : Nat} (h : fX12_init_b115 t σ I J D R s0 s1 = some (σ9, I9, J9, D9, R9)) : WX12_init G l σ0 (σ9, I9, J9, D9, R9) none (σ, I, J, D, R) 115 [(0, vR (some t))] [vR (some s1), vR (some s0)] := by
  unfold fX12_init_b115 at h
  obtain ⟨g38, h⟩ := gd h
  refine r_putRF (pc := 115) dX12_init_115 fwX12_53 rfl rfl g38 ?_
  refine r_aload_n (pc := 118) dX12_init_118 rfl 0 rfl ?_
  refine r_bipush (pc := 119) dX12_init_119 kc_bipush_40 ?_
  refine r_newa (pc := 121) (t := 21) (ti := 1) (ty := .long) dX12_init_121 rfl (by decide) ac21 (by decide) (by decide) (Nat.sub_le_sub_right (mX12_init_b123 h).1 _) (Nat.sub_le_sub_right (mX12_init_b123 h).2 _) ?_
  refine r_sub [0] rfl ?_
  exact wX12_init_b123 h
def fX12_init_b106  (t : Nat) (σ : Shp) (I : Nat → Nat → Int32) (J : Nat → Nat → Int64) (D : Nat → Nat → UInt64) (R : Nat → Nat → Option Nat) (s0 : Nat) (s1 : Nat) : Option ((Shp) × (Nat → Nat → Int32) × (Nat → Nat → Int64) × (Nat → Nat → UInt64) × (Nat → Nat → Option Nat)) :=
  if kdx σ s0 = 13 then
  let R36 := u2 R s0 16 (some s1)
  let σ37 := mkA σ 22 (Int32.toNatClampNeg (4100 : Int32))
  fX12_init_b115 t σ37 I J D R36 t (nxx σ + 4)
  else none
theorem mX12_init_b106 {σ : Shp} {I : Nat → Nat → Int32} {J : Nat → Nat → Int64} {D : Nat → Nat → UInt64} {R : Nat → Nat → Option Nat} {t : Nat} {σ9 : Shp} {I9 : Nat → Nat → Int32} {J9 : Nat → Nat → Int64} {D9 : Nat → Nat → UInt64} {R9 : Nat → Nat → Option Nat} {s0 : Nat} {s1 : Nat} (h : fX12_init_b106 t σ I J D R s0 s1 = some (σ9, I9, J9, D9, R9)) : Lex σ σ9 := by
  unfold fX12_init_b106 at h
  replace h := (gd h).2
  exact Lex_mkA (mX12_init_b115 h)
theorem wX12_init_b106 {G : Gx} {l : Launch} {σ0 : Shp} {σ : Shp} {I : Nat → Nat → Int32} {J : Nat → Nat → Int64} {D : Nat → Nat → UInt64} {R : Nat → Nat → Option Nat} {t : Nat} {σ9 : Shp} {I9 : Nat → Nat → Int32} {J9 : Nat → Nat → Int64} {D9 : Nat → Nat → UInt64} {R9 : Nat → Nat → Option Nat} {s0 : Nat} {s1 : Nat} (h : fX12_init_b106 t σ I J D R s0 s1 = some (σ9, I9, J9, D9, R9)) : WX12_init G l σ0 (σ9, I9, J9, D9, R9) none (σ, I, J, D, R) 106 [(0, vR (some t))] [vR (some s1), vR (some s0)] := by
  unfold fX12_init_b106 at h
  obtain ⟨g35, h⟩ := gd h
  refine r_putRF (pc := 106) dX12_init_106 fwX12_50 rfl rfl g35 ?_
  refine r_aload_n (pc := 109) dX12_init_109 rfl 0 rfl ?_
  refine r_sipush (pc := 110) dX12_init_110 kc_sipush_4100 ?_
  refine r_newa (pc := 113) (t := 22) (ti := 2) (ty := .byte) dX12_init_113 rfl (by decide) ac22 (by decide) (by decide) (Nat.sub_le_sub_right (mX12_init_b115 h).1 _) (Nat.sub_le_sub_right (mX12_init_b115 h).2 _) ?_
  refine r_sub [0] rfl ?_
  exact wX12_init_b115 h
def fX12_init_b97  (t : Nat) (σ : Shp) (I : Nat → Nat → Int32) (J : Nat → Nat → Int64) (D : Nat → Nat → UInt64) (R : Nat → Nat → Option Nat) (s0 : Nat) (s1 : Nat) : Option ((Shp) × (Nat → Nat → Int32) × (Nat → Nat → Int64) × (Nat → Nat → UInt64) × (Nat → Nat → Option Nat)) :=
  if kdx σ s0 = 13 then
  let R33 := u2 R s0 15 (some s1)
  let σ34 := mkA σ 23 (Int32.toNatClampNeg (4100 : Int32))
  fX12_init_b106 t σ34 I J D R33 t (nxx σ + 4)
  else none
theorem mX12_init_b97 {σ : Shp} {I : Nat → Nat → Int32} {J : Nat → Nat → Int64} {D : Nat → Nat → UInt64} {R : Nat → Nat → Option Nat} {t : Nat} {σ9 : Shp} {I9 : Nat → Nat → Int32} {J9 : Nat → Nat → Int64} {D9 : Nat → Nat → UInt64} {R9 : Nat → Nat → Option Nat} {s0 : Nat} {s1 : Nat} (h : fX12_init_b97 t σ I J D R s0 s1 = some (σ9, I9, J9, D9, R9)) : Lex σ σ9 := by
  unfold fX12_init_b97 at h
  replace h := (gd h).2
  exact Lex_mkA (mX12_init_b106 h)
theorem wX12_init_b97 {G : Gx} {l : Launch} {σ0 : Shp} {σ : Shp} {I : Nat → Nat → Int32} {J : Nat → Nat → Int64} {D : Nat → Nat → UInt64} {R : Nat → Nat → Option Nat} {t : Nat} {σ9 : Shp} {I9 : Nat → Nat → Int32} {J9 : Nat → Nat → Int64} {D9 : Nat → Nat → UInt64} {R9 : Nat → Nat → Option Nat} {s0 : Nat} {s1 : Nat} (h : fX12_init_b97 t σ I J D R s0 s1 = some (σ9, I9, J9, D9, R9)) : WX12_init G l σ0 (σ9, I9, J9, D9, R9) none (σ, I, J, D, R) 97 [(0, vR (some t))] [vR (some s1), vR (some s0)] := by
  unfold fX12_init_b97 at h
  obtain ⟨g32, h⟩ := gd h
  refine r_putRF (pc := 97) dX12_init_97 fwX12_47 rfl rfl g32 ?_
  refine r_aload_n (pc := 100) dX12_init_100 rfl 0 rfl ?_
  refine r_sipush (pc := 101) dX12_init_101 kc_sipush_4100 ?_
  refine r_newa (pc := 104) (t := 23) (ti := 3) (ty := .short) dX12_init_104 rfl (by decide) ac23 (by decide) (by decide) (Nat.sub_le_sub_right (mX12_init_b106 h).1 _) (Nat.sub_le_sub_right (mX12_init_b106 h).2 _) ?_
  refine r_sub [0] rfl ?_
  exact wX12_init_b106 h
def fX12_init_b88  (t : Nat) (σ : Shp) (I : Nat → Nat → Int32) (J : Nat → Nat → Int64) (D : Nat → Nat → UInt64) (R : Nat → Nat → Option Nat) (s0 : Nat) (s1 : Nat) : Option ((Shp) × (Nat → Nat → Int32) × (Nat → Nat → Int64) × (Nat → Nat → UInt64) × (Nat → Nat → Option Nat)) :=
  if kdx σ s0 = 13 then
  let R30 := u2 R s0 14 (some s1)
  let σ31 := mkA σ 23 (Int32.toNatClampNeg (4100 : Int32))
  fX12_init_b97 t σ31 I J D R30 t (nxx σ + 4)
  else none
theorem mX12_init_b88 {σ : Shp} {I : Nat → Nat → Int32} {J : Nat → Nat → Int64} {D : Nat → Nat → UInt64} {R : Nat → Nat → Option Nat} {t : Nat} {σ9 : Shp} {I9 : Nat → Nat → Int32} {J9 : Nat → Nat → Int64} {D9 : Nat → Nat → UInt64} {R9 : Nat → Nat → Option Nat} {s0 : Nat} {s1 : Nat} (h : fX12_init_b88 t σ I J D R s0 s1 = some (σ9, I9, J9, D9, R9)) : Lex σ σ9 := by
  unfold fX12_init_b88 at h
  replace h := (gd h).2
  exact Lex_mkA (mX12_init_b97 h)
theorem wX12_init_b88 {G : Gx} {l : Launch} {σ0 : Shp} {σ : Shp} {I : Nat → Nat → Int32} {J : Nat → Nat → Int64} {D : Nat → Nat → UInt64} {R : Nat → Nat → Option Nat} {t : Nat} {σ9 : Shp} {I9 : Nat → Nat → Int32} {J9 : Nat → Nat → Int64} {D9 : Nat → Nat → UInt64} {R9 : Nat → Nat → Option Nat} {s0 : Nat} {s1 : Nat} (h : fX12_init_b88 t σ I J D R s0 s1 = some (σ9, I9, J9, D9, R9)) : WX12_init G l σ0 (σ9, I9, J9, D9, R9) none (σ, I, J, D, R) 88 [(0, vR (some t))] [vR (some s1), vR (some s0)] := by
  unfold fX12_init_b88 at h
  obtain ⟨g29, h⟩ := gd h
  refine r_putRF (pc := 88) dX12_init_88 fwX12_44 rfl rfl g29 ?_
  refine r_aload_n (pc := 91) dX12_init_91 rfl 0 rfl ?_
  refine r_sipush (pc := 92) dX12_init_92 kc_sipush_4100 ?_
  refine r_newa (pc := 95) (t := 23) (ti := 3) (ty := .short) dX12_init_95 rfl (by decide) ac23 (by decide) (by decide) (Nat.sub_le_sub_right (mX12_init_b97 h).1 _) (Nat.sub_le_sub_right (mX12_init_b97 h).2 _) ?_
  refine r_sub [0] rfl ?_
  exact wX12_init_b97 h
def fX12_init_b79  (t : Nat) (σ : Shp) (I : Nat → Nat → Int32) (J : Nat → Nat → Int64) (D : Nat → Nat → UInt64) (R : Nat → Nat → Option Nat) (s0 : Nat) (s1 : Nat) : Option ((Shp) × (Nat → Nat → Int32) × (Nat → Nat → Int64) × (Nat → Nat → UInt64) × (Nat → Nat → Option Nat)) :=
  if kdx σ s0 = 13 then
  let R27 := u2 R s0 13 (some s1)
  let σ28 := mkA σ 20 (Int32.toNatClampNeg (4100 : Int32))
  fX12_init_b88 t σ28 I J D R27 t (nxx σ + 4)
  else none
theorem mX12_init_b79 {σ : Shp} {I : Nat → Nat → Int32} {J : Nat → Nat → Int64} {D : Nat → Nat → UInt64} {R : Nat → Nat → Option Nat} {t : Nat} {σ9 : Shp} {I9 : Nat → Nat → Int32} {J9 : Nat → Nat → Int64} {D9 : Nat → Nat → UInt64} {R9 : Nat → Nat → Option Nat} {s0 : Nat} {s1 : Nat} (h : fX12_init_b79 t σ I J D R s0 s1 = some (σ9, I9, J9, D9, R9)) : Lex σ σ9 := by
  unfold fX12_init_b79 at h
  replace h := (gd h).2
  exact Lex_mkA (mX12_init_b88 h)
theorem wX12_init_b79 {G : Gx} {l : Launch} {σ0 : Shp} {σ : Shp} {I : Nat → Nat → Int32} {J : Nat → Nat → Int64} {D : Nat → Nat → UInt64} {R : Nat → Nat → Option Nat} {t : Nat} {σ9 : Shp} {I9 : Nat → Nat → Int32} {J9 : Nat → Nat → Int64} {D9 : Nat → Nat → UInt64} {R9 : Nat → Nat → Option Nat} {s0 : Nat} {s1 : Nat} (h : fX12_init_b79 t σ I J D R s0 s1 = some (σ9, I9, J9, D9, R9)) : WX12_init G l σ0 (σ9, I9, J9, D9, R9) none (σ, I, J, D, R) 79 [(0, vR (some t))] [vR (some s1), vR (some s0)] := by
  unfold fX12_init_b79 at h
  obtain ⟨g26, h⟩ := gd h
  refine r_putRF (pc := 79) dX12_init_79 fwX12_41 rfl rfl g26 ?_
  refine r_aload_n (pc := 82) dX12_init_82 rfl 0 rfl ?_
  refine r_sipush (pc := 83) dX12_init_83 kc_sipush_4100 ?_
  refine r_newa (pc := 86) (t := 20) (ti := 0) (ty := .int) dX12_init_86 rfl (by decide) ac20 (by decide) (by decide) (Nat.sub_le_sub_right (mX12_init_b88 h).1 _) (Nat.sub_le_sub_right (mX12_init_b88 h).2 _) ?_
  refine r_sub [0] rfl ?_
  exact wX12_init_b88 h
def fX12_init_b70  (t : Nat) (σ : Shp) (I : Nat → Nat → Int32) (J : Nat → Nat → Int64) (D : Nat → Nat → UInt64) (R : Nat → Nat → Option Nat) (s0 : Nat) (s1 : Nat) : Option ((Shp) × (Nat → Nat → Int32) × (Nat → Nat → Int64) × (Nat → Nat → UInt64) × (Nat → Nat → Option Nat)) :=
  if kdx σ s0 = 13 then
  let R24 := u2 R s0 12 (some s1)
  let σ25 := mkA σ 20 (Int32.toNatClampNeg (4100 : Int32))
  fX12_init_b79 t σ25 I J D R24 t (nxx σ + 4)
  else none
theorem mX12_init_b70 {σ : Shp} {I : Nat → Nat → Int32} {J : Nat → Nat → Int64} {D : Nat → Nat → UInt64} {R : Nat → Nat → Option Nat} {t : Nat} {σ9 : Shp} {I9 : Nat → Nat → Int32} {J9 : Nat → Nat → Int64} {D9 : Nat → Nat → UInt64} {R9 : Nat → Nat → Option Nat} {s0 : Nat} {s1 : Nat} (h : fX12_init_b70 t σ I J D R s0 s1 = some (σ9, I9, J9, D9, R9)) : Lex σ σ9 := by
  unfold fX12_init_b70 at h
  replace h := (gd h).2
  exact Lex_mkA (mX12_init_b79 h)
theorem wX12_init_b70 {G : Gx} {l : Launch} {σ0 : Shp} {σ : Shp} {I : Nat → Nat → Int32} {J : Nat → Nat → Int64} {D : Nat → Nat → UInt64} {R : Nat → Nat → Option Nat} {t : Nat} {σ9 : Shp} {I9 : Nat → Nat → Int32} {J9 : Nat → Nat → Int64} {D9 : Nat → Nat → UInt64} {R9 : Nat → Nat → Option Nat} {s0 : Nat} {s1 : Nat} (h : fX12_init_b70 t σ I J D R s0 s1 = some (σ9, I9, J9, D9, R9)) : WX12_init G l σ0 (σ9, I9, J9, D9, R9) none (σ, I, J, D, R) 70 [(0, vR (some t))] [vR (some s1), vR (some s0)] := by
  unfold fX12_init_b70 at h
  obtain ⟨g23, h⟩ := gd h
  refine r_putRF (pc := 70) dX12_init_70 fwX12_38 rfl rfl g23 ?_
  refine r_aload_n (pc := 73) dX12_init_73 rfl 0 rfl ?_
  refine r_sipush (pc := 74) dX12_init_74 kc_sipush_4100 ?_
  refine r_newa (pc := 77) (t := 20) (ti := 0) (ty := .int) dX12_init_77 rfl (by decide) ac20 (by decide) (by decide) (Nat.sub_le_sub_right (mX12_init_b79 h).1 _) (Nat.sub_le_sub_right (mX12_init_b79 h).2 _) ?_
  refine r_sub [0] rfl ?_
  exact wX12_init_b79 h
def fX12_init_b61  (t : Nat) (σ : Shp) (I : Nat → Nat → Int32) (J : Nat → Nat → Int64) (D : Nat → Nat → UInt64) (R : Nat → Nat → Option Nat) (s0 : Nat) (s1 : Nat) : Option ((Shp) × (Nat → Nat → Int32) × (Nat → Nat → Int64) × (Nat → Nat → UInt64) × (Nat → Nat → Option Nat)) :=
  if kdx σ s0 = 13 then
  let R21 := u2 R s0 11 (some s1)
  let σ22 := mkA σ 22 (Int32.toNatClampNeg (4100 : Int32))
  fX12_init_b70 t σ22 I J D R21 t (nxx σ + 4)
  else none
theorem mX12_init_b61 {σ : Shp} {I : Nat → Nat → Int32} {J : Nat → Nat → Int64} {D : Nat → Nat → UInt64} {R : Nat → Nat → Option Nat} {t : Nat} {σ9 : Shp} {I9 : Nat → Nat → Int32} {J9 : Nat → Nat → Int64} {D9 : Nat → Nat → UInt64} {R9 : Nat → Nat → Option Nat} {s0 : Nat} {s1 : Nat} (h : fX12_init_b61 t σ I J D R s0 s1 = some (σ9, I9, J9, D9, R9)) : Lex σ σ9 := by
  unfold fX12_init_b61 at h
  replace h := (gd h).2
  exact Lex_mkA (mX12_init_b70 h)
theorem wX12_init_b61 {G : Gx} {l : Launch} {σ0 : Shp} {σ : Shp} {I : Nat → Nat → Int32} {J : Nat → Nat → Int64} {D : Nat → Nat → UInt64} {R : Nat → Nat → Option Nat} {t : Nat} {σ9 : Shp} {I9 : Nat → Nat → Int32} {J9 : Nat → Nat → Int64} {D9 : Nat → Nat → UInt64} {R9 : Nat → Nat → Option Nat} {s0 : Nat} {s1 : Nat} (h : fX12_init_b61 t σ I J D R s0 s1 = some (σ9, I9, J9, D9, R9)) : WX12_init G l σ0 (σ9, I9, J9, D9, R9) none (σ, I, J, D, R) 61 [(0, vR (some t))] [vR (some s1), vR (some s0)] := by
  unfold fX12_init_b61 at h
  obtain ⟨g20, h⟩ := gd h
  refine r_putRF (pc := 61) dX12_init_61 fwX12_35 rfl rfl g20 ?_
  refine r_aload_n (pc := 64) dX12_init_64 rfl 0 rfl ?_
  refine r_sipush (pc := 65) dX12_init_65 kc_sipush_4100 ?_
  refine r_newa (pc := 68) (t := 22) (ti := 2) (ty := .byte) dX12_init_68 rfl (by decide) ac22 (by decide) (by decide) (Nat.sub_le_sub_right (mX12_init_b70 h).1 _) (Nat.sub_le_sub_right (mX12_init_b70 h).2 _) ?_
  refine r_sub [0] rfl ?_
  exact wX12_init_b70 h
def fX12_init_b52  (t : Nat) (σ : Shp) (I : Nat → Nat → Int32) (J : Nat → Nat → Int64) (D : Nat → Nat → UInt64) (R : Nat → Nat → Option Nat) (s0 : Nat) (s1 : Nat) : Option ((Shp) × (Nat → Nat → Int32) × (Nat → Nat → Int64) × (Nat → Nat → UInt64) × (Nat → Nat → Option Nat)) :=
  if kdx σ s0 = 13 then
  let R18 := u2 R s0 10 (some s1)
  let σ19 := mkA σ 20 (Int32.toNatClampNeg (4100 : Int32))
  fX12_init_b61 t σ19 I J D R18 t (nxx σ + 4)
  else none
theorem mX12_init_b52 {σ : Shp} {I : Nat → Nat → Int32} {J : Nat → Nat → Int64} {D : Nat → Nat → UInt64} {R : Nat → Nat → Option Nat} {t : Nat} {σ9 : Shp} {I9 : Nat → Nat → Int32} {J9 : Nat → Nat → Int64} {D9 : Nat → Nat → UInt64} {R9 : Nat → Nat → Option Nat} {s0 : Nat} {s1 : Nat} (h : fX12_init_b52 t σ I J D R s0 s1 = some (σ9, I9, J9, D9, R9)) : Lex σ σ9 := by
  unfold fX12_init_b52 at h
  replace h := (gd h).2
  exact Lex_mkA (mX12_init_b61 h)
theorem wX12_init_b52 {G : Gx} {l : Launch} {σ0 : Shp} {σ : Shp} {I : Nat → Nat → Int32} {J : Nat → Nat → Int64} {D : Nat → Nat → UInt64} {R : Nat → Nat → Option Nat} {t : Nat} {σ9 : Shp} {I9 : Nat → Nat → Int32} {J9 : Nat → Nat → Int64} {D9 : Nat → Nat → UInt64} {R9 : Nat → Nat → Option Nat} {s0 : Nat} {s1 : Nat} (h : fX12_init_b52 t σ I J D R s0 s1 = some (σ9, I9, J9, D9, R9)) : WX12_init G l σ0 (σ9, I9, J9, D9, R9) none (σ, I, J, D, R) 52 [(0, vR (some t))] [vR (some s1), vR (some s0)] := by
  unfold fX12_init_b52 at h
  obtain ⟨g17, h⟩ := gd h
  refine r_putRF (pc := 52) dX12_init_52 fwX12_31 rfl rfl g17 ?_
  refine r_aload_n (pc := 55) dX12_init_55 rfl 0 rfl ?_
  refine r_sipush (pc := 56) dX12_init_56 kc_sipush_4100 ?_
  refine r_newa (pc := 59) (t := 20) (ti := 0) (ty := .int) dX12_init_59 rfl (by decide) ac20 (by decide) (by decide) (Nat.sub_le_sub_right (mX12_init_b61 h).1 _) (Nat.sub_le_sub_right (mX12_init_b61 h).2 _) ?_
  refine r_sub [0] rfl ?_
  exact wX12_init_b61 h
def fX12_init_b44  (t : Nat) (σ : Shp) (I : Nat → Nat → Int32) (J : Nat → Nat → Int64) (D : Nat → Nat → UInt64) (R : Nat → Nat → Option Nat) (s0 : Nat) (s1 : Nat) : Option ((Shp) × (Nat → Nat → Int32) × (Nat → Nat → Int64) × (Nat → Nat → UInt64) × (Nat → Nat → Option Nat)) :=
  if kdx σ s0 = 13 then
  let R15 := u2 R s0 8 (some s1)
  let σ16 := mkA σ 23 (Int32.toNatClampNeg (41000 : Int32))
  fX12_init_b52 t σ16 I J D R15 t (nxx σ + 4)
  else none
theorem mX12_init_b44 {σ : Shp} {I : Nat → Nat → Int32} {J : Nat → Nat → Int64} {D : Nat → Nat → UInt64} {R : Nat → Nat → Option Nat} {t : Nat} {σ9 : Shp} {I9 : Nat → Nat → Int32} {J9 : Nat → Nat → Int64} {D9 : Nat → Nat → UInt64} {R9 : Nat → Nat → Option Nat} {s0 : Nat} {s1 : Nat} (h : fX12_init_b44 t σ I J D R s0 s1 = some (σ9, I9, J9, D9, R9)) : Lex σ σ9 := by
  unfold fX12_init_b44 at h
  replace h := (gd h).2
  exact Lex_mkA (mX12_init_b52 h)
theorem wX12_init_b44 {G : Gx} {l : Launch} {σ0 : Shp} {σ : Shp} {I : Nat → Nat → Int32} {J : Nat → Nat → Int64} {D : Nat → Nat → UInt64} {R : Nat → Nat → Option Nat} {t : Nat} {σ9 : Shp} {I9 : Nat → Nat → Int32} {J9 : Nat → Nat → Int64} {D9 : Nat → Nat → UInt64} {R9 : Nat → Nat → Option Nat} {s0 : Nat} {s1 : Nat} (h : fX12_init_b44 t σ I J D R s0 s1 = some (σ9, I9, J9, D9, R9)) : WX12_init G l σ0 (σ9, I9, J9, D9, R9) none (σ, I, J, D, R) 44 [(0, vR (some t))] [vR (some s1), vR (some s0)] := by
  unfold fX12_init_b44 at h
  obtain ⟨g14, h⟩ := gd h
  refine r_putRF (pc := 44) dX12_init_44 fwX12_26 rfl rfl g14 ?_
  refine r_aload_n (pc := 47) dX12_init_47 rfl 0 rfl ?_
  refine r_ldc (pc := 48) dX12_init_48 ciX12_30 ?_
  refine r_newa (pc := 50) (t := 23) (ti := 3) (ty := .short) dX12_init_50 rfl (by decide) ac23 (by decide) (by decide) (Nat.sub_le_sub_right (mX12_init_b52 h).1 _) (Nat.sub_le_sub_right (mX12_init_b52 h).2 _) ?_
  refine r_sub [0] rfl ?_
  exact wX12_init_b52 h
def fX12_init_b36  (t : Nat) (σ : Shp) (I : Nat → Nat → Int32) (J : Nat → Nat → Int64) (D : Nat → Nat → UInt64) (R : Nat → Nat → Option Nat) (s0 : Nat) (s1 : Nat) : Option ((Shp) × (Nat → Nat → Int32) × (Nat → Nat → Int64) × (Nat → Nat → UInt64) × (Nat → Nat → Option Nat)) :=
  if kdx σ s0 = 13 then
  let R12 := u2 R s0 6 (some s1)
  let σ13 := mkA σ 21 (Int32.toNatClampNeg (164000 : Int32))
  fX12_init_b44 t σ13 I J D R12 t (nxx σ + 4)
  else none
theorem mX12_init_b36 {σ : Shp} {I : Nat → Nat → Int32} {J : Nat → Nat → Int64} {D : Nat → Nat → UInt64} {R : Nat → Nat → Option Nat} {t : Nat} {σ9 : Shp} {I9 : Nat → Nat → Int32} {J9 : Nat → Nat → Int64} {D9 : Nat → Nat → UInt64} {R9 : Nat → Nat → Option Nat} {s0 : Nat} {s1 : Nat} (h : fX12_init_b36 t σ I J D R s0 s1 = some (σ9, I9, J9, D9, R9)) : Lex σ σ9 := by
  unfold fX12_init_b36 at h
  replace h := (gd h).2
  exact Lex_mkA (mX12_init_b44 h)
theorem wX12_init_b36 {G : Gx} {l : Launch} {σ0 : Shp} {σ : Shp} {I : Nat → Nat → Int32} {J : Nat → Nat → Int64} {D : Nat → Nat → UInt64} {R : Nat → Nat → Option Nat} {t : Nat} {σ9 : Shp} {I9 : Nat → Nat → Int32} {J9 : Nat → Nat → Int64} {D9 : Nat → Nat → UInt64} {R9 : Nat → Nat → Option Nat} {s0 : Nat} {s1 : Nat} (h : fX12_init_b36 t σ I J D R s0 s1 = some (σ9, I9, J9, D9, R9)) : WX12_init G l σ0 (σ9, I9, J9, D9, R9) none (σ, I, J, D, R) 36 [(0, vR (some t))] [vR (some s1), vR (some s0)] := by
  unfold fX12_init_b36 at h
  obtain ⟨g11, h⟩ := gd h
  refine r_putRF (pc := 36) dX12_init_36 fwX12_22 rfl rfl g11 ?_
  refine r_aload_n (pc := 39) dX12_init_39 rfl 0 rfl ?_
  refine r_ldc (pc := 40) dX12_init_40 ciX12_25 ?_
  refine r_newa (pc := 42) (t := 21) (ti := 1) (ty := .long) dX12_init_42 rfl (by decide) ac21 (by decide) (by decide) (Nat.sub_le_sub_right (mX12_init_b44 h).1 _) (Nat.sub_le_sub_right (mX12_init_b44 h).2 _) ?_
  refine r_sub [0] rfl ?_
  exact wX12_init_b44 h
def fX12_init_b27  (t : Nat) (σ : Shp) (I : Nat → Nat → Int32) (J : Nat → Nat → Int64) (D : Nat → Nat → UInt64) (R : Nat → Nat → Option Nat) (s0 : Nat) (s1 : Nat) : Option ((Shp) × (Nat → Nat → Int32) × (Nat → Nat → Int64) × (Nat → Nat → UInt64) × (Nat → Nat → Option Nat)) :=
  if kdx σ s0 = 13 then
  let R9 := u2 R s0 5 (some s1)
  let σ10 := mkA σ 20 (Int32.toNatClampNeg (4100 : Int32))
  fX12_init_b36 t σ10 I J D R9 t (nxx σ + 4)
  else none
theorem mX12_init_b27 {σ : Shp} {I : Nat → Nat → Int32} {J : Nat → Nat → Int64} {D : Nat → Nat → UInt64} {R : Nat → Nat → Option Nat} {t : Nat} {σ9 : Shp} {I9 : Nat → Nat → Int32} {J9 : Nat → Nat → Int64} {D9 : Nat → Nat → UInt64} {R9 : Nat → Nat → Option Nat} {s0 : Nat} {s1 : Nat} (h : fX12_init_b27 t σ I J D R s0 s1 = some (σ9, I9, J9, D9, R9)) : Lex σ σ9 := by
  unfold fX12_init_b27 at h
  replace h := (gd h).2
  exact Lex_mkA (mX12_init_b36 h)
theorem wX12_init_b27 {G : Gx} {l : Launch} {σ0 : Shp} {σ : Shp} {I : Nat → Nat → Int32} {J : Nat → Nat → Int64} {D : Nat → Nat → UInt64} {R : Nat → Nat → Option Nat} {t : Nat} {σ9 : Shp} {I9 : Nat → Nat → Int32} {J9 : Nat → Nat → Int64} {D9 : Nat → Nat → UInt64} {R9 : Nat → Nat → Option Nat} {s0 : Nat} {s1 : Nat} (h : fX12_init_b27 t σ I J D R s0 s1 = some (σ9, I9, J9, D9, R9)) : WX12_init G l σ0 (σ9, I9, J9, D9, R9) none (σ, I, J, D, R) 27 [(0, vR (some t))] [vR (some s1), vR (some s0)] := by
  unfold fX12_init_b27 at h
  obtain ⟨g8, h⟩ := gd h
  refine r_putRF (pc := 27) dX12_init_27 fwX12_19 rfl rfl g8 ?_
  refine r_aload_n (pc := 30) dX12_init_30 rfl 0 rfl ?_
  refine r_sipush (pc := 31) dX12_init_31 kc_sipush_4100 ?_
  refine r_newa (pc := 34) (t := 20) (ti := 0) (ty := .int) dX12_init_34 rfl (by decide) ac20 (by decide) (by decide) (Nat.sub_le_sub_right (mX12_init_b36 h).1 _) (Nat.sub_le_sub_right (mX12_init_b36 h).2 _) ?_
  refine r_sub [0] rfl ?_
  exact wX12_init_b36 h
def fX12_init_b18  (t : Nat) (σ : Shp) (I : Nat → Nat → Int32) (J : Nat → Nat → Int64) (D : Nat → Nat → UInt64) (R : Nat → Nat → Option Nat) (s0 : Nat) (s1 : Nat) : Option ((Shp) × (Nat → Nat → Int32) × (Nat → Nat → Int64) × (Nat → Nat → UInt64) × (Nat → Nat → Option Nat)) :=
  if kdx σ s0 = 13 then
  let R6 := u2 R s0 4 (some s1)
  let σ7 := mkA σ 22 (Int32.toNatClampNeg (4100 : Int32))
  fX12_init_b27 t σ7 I J D R6 t (nxx σ + 4)
  else none
theorem mX12_init_b18 {σ : Shp} {I : Nat → Nat → Int32} {J : Nat → Nat → Int64} {D : Nat → Nat → UInt64} {R : Nat → Nat → Option Nat} {t : Nat} {σ9 : Shp} {I9 : Nat → Nat → Int32} {J9 : Nat → Nat → Int64} {D9 : Nat → Nat → UInt64} {R9 : Nat → Nat → Option Nat} {s0 : Nat} {s1 : Nat} (h : fX12_init_b18 t σ I J D R s0 s1 = some (σ9, I9, J9, D9, R9)) : Lex σ σ9 := by
  unfold fX12_init_b18 at h
  replace h := (gd h).2
  exact Lex_mkA (mX12_init_b27 h)
theorem wX12_init_b18 {G : Gx} {l : Launch} {σ0 : Shp} {σ : Shp} {I : Nat → Nat → Int32} {J : Nat → Nat → Int64} {D : Nat → Nat → UInt64} {R : Nat → Nat → Option Nat} {t : Nat} {σ9 : Shp} {I9 : Nat → Nat → Int32} {J9 : Nat → Nat → Int64} {D9 : Nat → Nat → UInt64} {R9 : Nat → Nat → Option Nat} {s0 : Nat} {s1 : Nat} (h : fX12_init_b18 t σ I J D R s0 s1 = some (σ9, I9, J9, D9, R9)) : WX12_init G l σ0 (σ9, I9, J9, D9, R9) none (σ, I, J, D, R) 18 [(0, vR (some t))] [vR (some s1), vR (some s0)] := by
  unfold fX12_init_b18 at h
  obtain ⟨g5, h⟩ := gd h
  refine r_putRF (pc := 18) dX12_init_18 fwX12_15 rfl rfl g5 ?_
  refine r_aload_n (pc := 21) dX12_init_21 rfl 0 rfl ?_
  refine r_sipush (pc := 22) dX12_init_22 kc_sipush_4100 ?_
  refine r_newa (pc := 25) (t := 22) (ti := 2) (ty := .byte) dX12_init_25 rfl (by decide) ac22 (by decide) (by decide) (Nat.sub_le_sub_right (mX12_init_b27 h).1 _) (Nat.sub_le_sub_right (mX12_init_b27 h).2 _) ?_
  refine r_sub [0] rfl ?_
  exact wX12_init_b27 h
def fX12_init_b9  (t : Nat) (σ : Shp) (I : Nat → Nat → Int32) (J : Nat → Nat → Int64) (D : Nat → Nat → UInt64) (R : Nat → Nat → Option Nat) (s0 : Nat) (s1 : Nat) : Option ((Shp) × (Nat → Nat → Int32) × (Nat → Nat → Int64) × (Nat → Nat → UInt64) × (Nat → Nat → Option Nat)) :=
  if kdx σ s0 = 13 then
  let R3 := u2 R s0 3 (some s1)
  let σ4 := mkA σ 22 (Int32.toNatClampNeg (4100 : Int32))
  fX12_init_b18 t σ4 I J D R3 t (nxx σ + 4)
  else none
theorem mX12_init_b9 {σ : Shp} {I : Nat → Nat → Int32} {J : Nat → Nat → Int64} {D : Nat → Nat → UInt64} {R : Nat → Nat → Option Nat} {t : Nat} {σ9 : Shp} {I9 : Nat → Nat → Int32} {J9 : Nat → Nat → Int64} {D9 : Nat → Nat → UInt64} {R9 : Nat → Nat → Option Nat} {s0 : Nat} {s1 : Nat} (h : fX12_init_b9 t σ I J D R s0 s1 = some (σ9, I9, J9, D9, R9)) : Lex σ σ9 := by
  unfold fX12_init_b9 at h
  replace h := (gd h).2
  exact Lex_mkA (mX12_init_b18 h)
theorem wX12_init_b9 {G : Gx} {l : Launch} {σ0 : Shp} {σ : Shp} {I : Nat → Nat → Int32} {J : Nat → Nat → Int64} {D : Nat → Nat → UInt64} {R : Nat → Nat → Option Nat} {t : Nat} {σ9 : Shp} {I9 : Nat → Nat → Int32} {J9 : Nat → Nat → Int64} {D9 : Nat → Nat → UInt64} {R9 : Nat → Nat → Option Nat} {s0 : Nat} {s1 : Nat} (h : fX12_init_b9 t σ I J D R s0 s1 = some (σ9, I9, J9, D9, R9)) : WX12_init G l σ0 (σ9, I9, J9, D9, R9) none (σ, I, J, D, R) 9 [(0, vR (some t))] [vR (some s1), vR (some s0)] := by
  unfold fX12_init_b9 at h
  obtain ⟨g2, h⟩ := gd h
  refine r_putRF (pc := 9) dX12_init_9 fwX12_9 rfl rfl g2 ?_
  refine r_aload_n (pc := 12) dX12_init_12 rfl 0 rfl ?_
  refine r_sipush (pc := 13) dX12_init_13 kc_sipush_4100 ?_
  refine r_newa (pc := 16) (t := 22) (ti := 2) (ty := .byte) dX12_init_16 rfl (by decide) ac22 (by decide) (by decide) (Nat.sub_le_sub_right (mX12_init_b18 h).1 _) (Nat.sub_le_sub_right (mX12_init_b18 h).2 _) ?_
  refine r_sub [0] rfl ?_
  exact wX12_init_b18 h
def fX12_init (σ : Shp) (I : Nat → Nat → Int32) (J : Nat → Nat → Int64) (D : Nat → Nat → UInt64) (R : Nat → Nat → Option Nat) (t : Nat)  : Option ((Shp) × (Nat → Nat → Int32) × (Nat → Nat → Int64) × (Nat → Nat → UInt64) × (Nat → Nat → Option Nat)) :=
  let σ1 := mkA σ 20 (Int32.toNatClampNeg (16 : Int32))
  fX12_init_b9 t σ1 I J D R t (nxx σ + 4)
theorem mX12_init {σ : Shp} {I : Nat → Nat → Int32} {J : Nat → Nat → Int64} {D : Nat → Nat → UInt64} {R : Nat → Nat → Option Nat} {t : Nat}  {σ9 : Shp} {I9 : Nat → Nat → Int32} {J9 : Nat → Nat → Int64} {D9 : Nat → Nat → UInt64} {R9 : Nat → Nat → Option Nat} (h : fX12_init σ I J D R t = some (σ9, I9, J9, D9, R9)) : Lex σ σ9 := by
  unfold fX12_init at h
  exact Lex_mkA (mX12_init_b9 h)
theorem kX12_init {G : Gx} {l : Launch} {σ : Shp} {I : Nat → Nat → Int32} {J : Nat → Nat → Int64} {D : Nat → Nat → UInt64} {R : Nat → Nat → Option Nat} {t : Nat}  {σ9 : Shp} {I9 : Nat → Nat → Int32} {J9 : Nat → Nat → Int64} {D9 : Nat → Nat → UInt64} {R9 : Nat → Nat → Option Nat} (h : fX12_init σ I J D R t = some (σ9, I9, J9, D9, R9)) : Con G l yX12_init cX12_init 1 none 1 20 [vR (some t)] (σ, I, J, D, R) (σ9, I9, J9, D9, R9) none := by
  unfold fX12_init at h
  refine Con.mk (by decide +kernel) rfl (Nat.le_of_ble_eq_true rfl) ?_
  show WX12_init G l σ (σ9, I9, J9, D9, R9) none (σ, I, J, D, R) 0 _ []
  refine r_aload_n (pc := 0) dX12_init_0 rfl 0 rfl ?_
  refine r_objInit (pc := 1) (S := []) dX12_init_1 obX12_3 obI obC (Nat.le_of_ble_eq_true rfl) (Nat.le_of_ble_eq_true rfl) (Nat.le_of_ble_eq_true rfl) ?_
  refine r_aload_n (pc := 4) dX12_init_4 rfl 0 rfl ?_
  refine r_bipush (pc := 5) dX12_init_5 kc_bipush_16 ?_
  refine r_newa (pc := 7) (t := 20) (ti := 0) (ty := .int) dX12_init_7 rfl (by decide) ac20 (by decide) (by decide) (Nat.sub_le_sub_right (mX12_init_b9 h).1 _) (Nat.sub_le_sub_right (mX12_init_b9 h).2 _) ?_
  refine r_sub [0] rfl ?_
  exact wX12_init_b9 h
