abbrev WX11_isPlacesForm (G : Gx) (l : Launch) (σ0 : Shp) (X1 : Stt) (rv : Option SV) : Stt → Nat → List (Nat × SV) → List SV → Prop := Wm G l yX11_isPlacesForm cX11_isPlacesForm 1 (some .boolean) (fun _ => True) (rmx 0 0 σ0 X1.1) σ0 (Qmx G σ0 X1 rv)
def fX11_isPlacesForm  (x0 : Int32) : (Int32) :=
  if x0 < (8 : Int32) then
    (0 : Int32)
  else
    if (15 : Int32) < x0 then
      (0 : Int32)
    else
      (1 : Int32)
theorem zX11_isPlacesForm  (x0 : Int32) : fX11_isPlacesForm x0 = 0 ∨ fX11_isPlacesForm x0 = 1 := by
  unfold fX11_isPlacesForm
  repeat' (first | refine itz ?_ ?_ | exact Or.inl rfl | exact Or.inr rfl)
theorem kX11_isPlacesForm {G : Gx} {l : Launch} {σ : Shp} {I : Nat → Nat → Int32} {J : Nat → Nat → Int64} {D : Nat → Nat → UInt64} {R : Nat → Nat → Option Nat} {x0 : Int32} {r9 : Int32} (h : fX11_isPlacesForm x0 = r9) : Con G l yX11_isPlacesForm cX11_isPlacesForm 1 (some .boolean) 0 0 [vI x0] (σ, I, J, D, R) (σ, I, J, D, R) (some (vI r9)) := by
  unfold fX11_isPlacesForm at h
  refine Con.mk (by decide +kernel) rfl (Nat.le_of_ble_eq_true rfl) ?_
  show WX11_isPlacesForm G l σ (σ, I, J, D, R) (some (vI r9)) (σ, I, J, D, R) 0 _ []
  refine r_iload_n (pc := 0) dX11_isPlacesForm_0 rfl 0 rfl ?_
  refine r_bipush (pc := 1) dX11_isPlacesForm_1 kc_bipush_8 ?_
  refine r_icmp_lt (pc := 3) (tgt := 16) dX11_isPlacesForm_3 rfl (fun c => ?_) (fun c => ?_)
  · have h := it h c
    refine r_iconst (pc := 16) dX11_isPlacesForm_16 kc_iconst_0 ?_
    subst h
    exact r_zret dX11_isPlacesForm_17 (Or.inl rfl)
  · have h := ie h c
    refine r_iload_n (pc := 6) dX11_isPlacesForm_6 rfl 0 rfl ?_
    refine r_bipush (pc := 7) dX11_isPlacesForm_7 kc_bipush_15 ?_
    refine r_icmp_gt (pc := 9) (tgt := 16) dX11_isPlacesForm_9 rfl (fun c => ?_) (fun c => ?_)
    · have h := it h c
      refine r_iconst (pc := 16) dX11_isPlacesForm_16 kc_iconst_0 ?_
      subst h
      exact r_zret dX11_isPlacesForm_17 (Or.inl rfl)
    · have h := ie h c
      refine r_iconst (pc := 12) dX11_isPlacesForm_12 kc_iconst_1 ?_
      refine r_goto (pc := 13) (tgt := 17) dX11_isPlacesForm_13 rfl ?_
      subst h
      exact r_zret dX11_isPlacesForm_17 (Or.inr rfl)
abbrev WX11_placesFault (G : Gx) (l : Launch) (σ0 : Shp) (X1 : Stt) (rv : Option SV) : Stt → Nat → List (Nat × SV) → List SV → Prop := Wm G l yX11_placesFault cX11_placesFault 2 (some .int) (fun _ => True) (rmx 3 65 σ0 X1.1) σ0 (Qmx G σ0 X1 rv)
def fX11_placesFault (σ : Shp) (I : Nat → Nat → Int32) (R : Nat → Nat → Option Nat) (x0 : Option Nat) (x1 : Int32) : Option ((Int32)) :=
  onl x0
    (
      some (1 : Int32))
    (fun a1 =>
      if kdx σ a1 = 11 then
      if (fX11_isPlacesForm (I a1 0)) = 0 then
        some (4 : Int32)
      else
        (fX11_placeFault σ I R (some a1) (I a1 0) x1).bind fun r3 =>
        some r3
      else none)
theorem kX11_placesFault {G : Gx} {l : Launch} {σ : Shp} {I : Nat → Nat → Int32} {J : Nat → Nat → Int64} {D : Nat → Nat → UInt64} {R : Nat → Nat → Option Nat} {x0 : Option Nat} {x1 : Int32} {r9 : Int32} (h : fX11_placesFault σ I R x0 x1 = some r9) : Con G l yX11_placesFault cX11_placesFault 2 (some .int) 3 65 [vR x0, vI x1] (σ, I, J, D, R) (σ, I, J, D, R) (some (vI r9)) := by
  unfold fX11_placesFault at h
  refine Con.mk (by decide +kernel) rfl (Nat.le_of_ble_eq_true rfl) ?_
  show WX11_placesFault G l σ (σ, I, J, D, R) (some (vI r9)) (σ, I, J, D, R) 0 _ []
  refine r_aload_n (pc := 0) dX11_placesFault_0 rfl 0 rfl ?_
  rcases onl_c h with ⟨ea1, h⟩ | ⟨a1, ha1, h⟩
  · refine r_ref0n ea1 ?_
    refine r_ifnonnull_n (pc := 1) dX11_placesFault_1 ?_
    refine r_iconst (pc := 4) dX11_placesFault_4 kc_iconst_1 ?_
    cases h
    exact r_iret dX11_placesFault_5
  · refine r_ref0 ha1 ?_
    refine r_ifnonnull_s (pc := 1) (tgt := 6) dX11_placesFault_1 rfl ?_
    refine r_aload_n (pc := 6) dX11_placesFault_6 rfl 0 rfl ?_
    refine r_ref0 ha1 ?_
    obtain ⟨g2, h⟩ := gd h
    refine r_getI (pc := 7) dX11_placesFault_7 fgX11_113 rfl g2 ?_
    refine r_callS1 (pc := 10) (av := [vI (I a1 0)]) (S := []) dX11_placesFault_10 (kX11_isPlacesForm rfl) mkX11_206 mwX11_isPlacesForm rfl ⟨Nat.le_of_ble_eq_true rfl, Nat.le_of_ble_eq_true rfl⟩ (Nat.le_of_ble_eq_true rfl) ⟨Nat.le_refl _, Nat.le_refl _⟩ (fun b => b) ?_
    refine r_if_eq (pc := 13) (tgt := 28) dX11_placesFault_13 rfl (fun c => ?_) (fun c => ?_)
    · have h := it h c
      refine r_iconst (pc := 28) dX11_placesFault_28 kc_iconst_4 ?_
      cases h
      exact r_iret dX11_placesFault_29
    · have h := ie h c
      refine r_aload_n (pc := 16) dX11_placesFault_16 rfl 0 rfl ?_
      refine r_ref0 ha1 ?_
      refine r_aload_n (pc := 17) dX11_placesFault_17 rfl 0 rfl ?_
      refine r_ref0 ha1 ?_
      refine r_getI (pc := 18) dX11_placesFault_18 fgX11_113 rfl g2 ?_
      refine r_iload_n (pc := 21) dX11_placesFault_21 rfl 1 rfl ?_
      obtain ⟨r3, hc4, h⟩ := ob h
      refine r_callS1 (pc := 22) (av := [vR (some a1), vI (I a1 0), vI x1]) (S := []) dX11_placesFault_22 (kX11_placeFault hc4) mkX11_149 mwX11_placeFault rfl ⟨Nat.le_of_ble_eq_true rfl, Nat.le_of_ble_eq_true rfl⟩ (Nat.le_of_ble_eq_true rfl) ⟨Nat.le_refl _, Nat.le_refl _⟩ (fun b => b) ?_
      refine r_goto (pc := 25) (tgt := 29) dX11_placesFault_25 rfl ?_
      cases h
      exact r_iret dX11_placesFault_29
abbrev WX11_takes (G : Gx) (l : Launch) (σ0 : Shp) (X1 : Stt) (rv : Option SV) : Stt → Nat → List (Nat × SV) → List SV → Prop := Wm G l yX11_takes cX11_takes 2 (some .boolean) (fun _ => True) (rmx 2 41 σ0 X1.1) σ0 (Qmx G σ0 X1 rv)
def fX11_takes (σ : Shp) (I : Nat → Nat → Int32) (x0 : Int32) (x1 : Option Nat) : Option ((Int32)) :=
  onl x1
    (
      some (1 : Int32))
    (fun a1 =>
      if (fX11_isGridForm x0) = 0 then
        if x0 = (11 : Int32) then
          if kdx σ a1 = 11 then
          if (I a1 0) = (9 : Int32) then
            some (1 : Int32)
          else
            some (0 : Int32)
          else none
        else
          if kdx σ a1 = 11 then
          if (I a1 0) = (16 : Int32) then
            if (fX11_trayTakes x0 (I a1 3)) = 0 then
              some (0 : Int32)
            else
              some (1 : Int32)
          else
            some (0 : Int32)
          else none
      else
        if kdx σ a1 = 11 then
        if (I a1 0) = (fX11_laneOfGrid x0) then
          some (1 : Int32)
        else
          some (0 : Int32)
        else none)
theorem kX11_takes {G : Gx} {l : Launch} {σ : Shp} {I : Nat → Nat → Int32} {J : Nat → Nat → Int64} {D : Nat → Nat → UInt64} {R : Nat → Nat → Option Nat} {x0 : Int32} {x1 : Option Nat} {r9 : Int32} (h : fX11_takes σ I x0 x1 = some r9) : Con G l yX11_takes cX11_takes 2 (some .boolean) 2 41 [vI x0, vR x1] (σ, I, J, D, R) (σ, I, J, D, R) (some (vI r9)) := by
  unfold fX11_takes at h
  refine Con.mk (by decide +kernel) rfl (Nat.le_of_ble_eq_true rfl) ?_
  show WX11_takes G l σ (σ, I, J, D, R) (some (vI r9)) (σ, I, J, D, R) 0 _ []
  refine r_aload_n (pc := 0) dX11_takes_0 rfl 1 rfl ?_
  rcases onl_c h with ⟨ea1, h⟩ | ⟨a1, ha1, h⟩
  · refine r_ref0n ea1 ?_
    refine r_ifnonnull_n (pc := 1) dX11_takes_1 ?_
    refine r_iconst (pc := 4) dX11_takes_4 kc_iconst_1 ?_
    cases h
    exact r_zret dX11_takes_5 (Or.inr rfl)
  · refine r_ref0 ha1 ?_
    refine r_ifnonnull_s (pc := 1) (tgt := 6) dX11_takes_1 rfl ?_
    refine r_iload_n (pc := 6) dX11_takes_6 rfl 0 rfl ?_
    refine r_callS1 (pc := 7) (av := [vI x0]) (S := []) dX11_takes_7 (kX11_isGridForm rfl) mkX11_95 mwX11_isGridForm rfl ⟨Nat.le_of_ble_eq_true rfl, Nat.le_of_ble_eq_true rfl⟩ (Nat.le_of_ble_eq_true rfl) ⟨Nat.le_refl _, Nat.le_refl _⟩ (fun b => b) ?_
    refine r_if_eq (pc := 10) (tgt := 30) dX11_takes_10 rfl (fun c => ?_) (fun c => ?_)
    · have h := it h c
      refine r_iload_n (pc := 30) dX11_takes_30 rfl 0 rfl ?_
      refine r_bipush (pc := 31) dX11_takes_31 kc_bipush_11 ?_
      refine r_icmp_ne (pc := 33) (tgt := 51) dX11_takes_33 rfl (fun c => ?_) (fun c => ?_)
      · have h := ie h c
        refine r_aload_n (pc := 51) dX11_takes_51 rfl 1 rfl ?_
        refine r_ref0 ha1 ?_
        obtain ⟨g2, h⟩ := gd h
        refine r_getI (pc := 52) dX11_takes_52 fgX11_113 rfl g2 ?_
        refine r_bipush (pc := 55) dX11_takes_55 kc_bipush_16 ?_
        refine r_icmp_ne (pc := 57) (tgt := 75) dX11_takes_57 rfl (fun c => ?_) (fun c => ?_)
        · have h := ie h c
          refine r_iconst (pc := 75) dX11_takes_75 kc_iconst_0 ?_
          cases h
          exact r_zret dX11_takes_76 (Or.inl rfl)
        · have h := it h c
          refine r_iload_n (pc := 60) dX11_takes_60 rfl 0 rfl ?_
          refine r_aload_n (pc := 61) dX11_takes_61 rfl 1 rfl ?_
          refine r_ref0 ha1 ?_
          refine r_getI (pc := 62) dX11_takes_62 fgX11_123 rfl g2 ?_
          refine r_callS1 (pc := 65) (av := [vI x0, vI (I a1 3)]) (S := []) dX11_takes_65 (kX11_trayTakes rfl) mkX11_126 mwX11_trayTakes rfl ⟨Nat.le_of_ble_eq_true rfl, Nat.le_of_ble_eq_true rfl⟩ (Nat.le_of_ble_eq_true rfl) ⟨Nat.le_refl _, Nat.le_refl _⟩ (fun b => b) ?_
          refine r_if_eq (pc := 68) (tgt := 75) dX11_takes_68 rfl (fun c => ?_) (fun c => ?_)
          · have h := it h c
            refine r_iconst (pc := 75) dX11_takes_75 kc_iconst_0 ?_
            cases h
            exact r_zret dX11_takes_76 (Or.inl rfl)
          · have h := ie h c
            refine r_iconst (pc := 71) dX11_takes_71 kc_iconst_1 ?_
            refine r_goto (pc := 72) (tgt := 76) dX11_takes_72 rfl ?_
            cases h
            exact r_zret dX11_takes_76 (Or.inr rfl)
      · have h := it h c
        refine r_aload_n (pc := 36) dX11_takes_36 rfl 1 rfl ?_
        refine r_ref0 ha1 ?_
        obtain ⟨g3, h⟩ := gd h
        refine r_getI (pc := 37) dX11_takes_37 fgX11_113 rfl g3 ?_
        refine r_bipush (pc := 40) dX11_takes_40 kc_bipush_9 ?_
        refine r_icmp_ne (pc := 42) (tgt := 49) dX11_takes_42 rfl (fun c => ?_) (fun c => ?_)
        · have h := ie h c
          refine r_iconst (pc := 49) dX11_takes_49 kc_iconst_0 ?_
          cases h
          exact r_zret dX11_takes_50 (Or.inl rfl)
        · have h := it h c
          refine r_iconst (pc := 45) dX11_takes_45 kc_iconst_1 ?_
          refine r_goto (pc := 46) (tgt := 50) dX11_takes_46 rfl ?_
          cases h
          exact r_zret dX11_takes_50 (Or.inr rfl)
    · have h := ie h c
      refine r_aload_n (pc := 13) dX11_takes_13 rfl 1 rfl ?_
      refine r_ref0 ha1 ?_
      obtain ⟨g4, h⟩ := gd h
      refine r_getI (pc := 14) dX11_takes_14 fgX11_113 rfl g4 ?_
      refine r_iload_n (pc := 17) dX11_takes_17 rfl 0 rfl ?_
      refine r_callS1 (pc := 18) (av := [vI x0]) (S := [vI (I a1 0)]) dX11_takes_18 (kX11_laneOfGrid rfl) mkX11_106 mwX11_laneOfGrid rfl ⟨Nat.le_of_ble_eq_true rfl, Nat.le_of_ble_eq_true rfl⟩ (Nat.le_of_ble_eq_true rfl) ⟨Nat.le_refl _, Nat.le_refl _⟩ (fun b => b) ?_
      refine r_icmp_ne (pc := 21) (tgt := 28) dX11_takes_21 rfl (fun c => ?_) (fun c => ?_)
      · have h := ie h c
        refine r_iconst (pc := 28) dX11_takes_28 kc_iconst_0 ?_
        cases h
        exact r_zret dX11_takes_29 (Or.inl rfl)
      · have h := it h c
        refine r_iconst (pc := 24) dX11_takes_24 kc_iconst_1 ?_
        refine r_goto (pc := 25) (tgt := 29) dX11_takes_25 rfl ?_
        cases h
        exact r_zret dX11_takes_29 (Or.inr rfl)
abbrev WX11_set (G : Gx) (l : Launch) (σ0 : Shp) (X1 : Stt) (rv : Option SV) : Stt → Nat → List (Nat × SV) → List SV → Prop := Wm G l yX11_set cX11_set 6 (some .int) (fun _ => True) (rmx 4 86 σ0 X1.1) σ0 (Qmx G σ0 X1 rv)
def fX11_set (σ : Shp) (I : Nat → Nat → Int32) (R : Nat → Nat → Option Nat) (t : Nat) (x1 : Int32) (x2 : Int32) (x3 : Int32) : Option ((Nat → Nat → Int32) × (Nat → Nat → Option Nat) × (Int32)) :=
  if (fX11_isBin x1) = 0 then
    some (I, R, (-2 : Int32))
  else
    if (fX11_isBin x3) = 0 then
      some (I, R, (-2 : Int32))
    else
      if kdx σ t = 12 then
      ((R t 1) : Option Nat).bind fun a2 =>
      if kdx σ a2 = 26 then
      if ¬ (x1 < 0 ∨ lnx σ a2 ≤ Int32.toNatClampNeg x1) then
      let v5 := (R a2 (Int32.toNatClampNeg x1))
      (fX11_placesFault σ I R v5 x2).bind fun r6 =>
      if r6 = 0 then
        onl v5
          (
            (fX11_fail σ I t r6).bind fun (I12, r13) =>
            some (I12, R, r13))
          (fun a11 =>
            if kdx σ a11 = 11 then
            if ¬ (x3 < 0 ∨ lnx σ a2 ≤ Int32.toNatClampNeg x3) then
            (fX11_takes σ I (I a11 0) (R a2 (Int32.toNatClampNeg x3))).bind fun r17 =>
            if r17 = 0 then
              (fX11_fail σ I t (5 : Int32)).bind fun (I24, r25) =>
              some (I24, R, r25)
            else
              ((R a11 2) : Option Nat).bind fun a19 =>
              if kdx σ a19 = 26 then
              if ¬ (x2 < 0 ∨ lnx σ a19 ≤ Int32.toNatClampNeg x2) then
              if okR σ 11 (R a2 (Int32.toNatClampNeg x3)) = true then
              let R23 := u2 R a19 (Int32.toNatClampNeg x2) (R a2 (Int32.toNatClampNeg x3))
              some (I, R23, (1 : Int32))
              else none
              else none
              else none
            else none
            else none)
      else
        (fX11_fail σ I t r6).bind fun (I8, r9) =>
        some (I8, R, r9)
      else none
      else none
      else none
theorem kX11_set {G : Gx} {l : Launch} {σ : Shp} {I : Nat → Nat → Int32} {J : Nat → Nat → Int64} {D : Nat → Nat → UInt64} {R : Nat → Nat → Option Nat} {t : Nat} {x1 : Int32} {x2 : Int32} {x3 : Int32} {I9 : Nat → Nat → Int32} {R9 : Nat → Nat → Option Nat} {r9 : Int32} (h : fX11_set σ I R t x1 x2 x3 = some (I9, R9, r9)) : Con G l yX11_set cX11_set 6 (some .int) 4 86 [vR (some t), vI x1, vI x2, vI x3] (σ, I, J, D, R) (σ, I9, J, D, R9) (some (vI r9)) := by
  unfold fX11_set at h
  refine Con.mk (by decide +kernel) rfl (Nat.le_of_ble_eq_true rfl) ?_
  show WX11_set G l σ (σ, I9, J, D, R9) (some (vI r9)) (σ, I, J, D, R) 0 _ []
  refine r_iload_n (pc := 0) dX11_set_0 rfl 1 rfl ?_
  refine r_callS1 (pc := 1) (av := [vI x1]) (S := []) dX11_set_1 (kX11_isBin rfl) mkX11_76 mwX11_isBin rfl ⟨Nat.le_of_ble_eq_true rfl, Nat.le_of_ble_eq_true rfl⟩ (Nat.le_of_ble_eq_true rfl) ⟨Nat.le_refl _, Nat.le_refl _⟩ (fun b => b) ?_
  refine r_if_eq (pc := 4) (tgt := 14) dX11_set_4 rfl (fun c => ?_) (fun c => ?_)
  · have h := it h c
    refine r_bipush (pc := 14) dX11_set_14 kc_bipush_m2 ?_
    cases h
    exact r_iret dX11_set_16
  · have h := ie h c
    refine r_iload_n (pc := 7) dX11_set_7 rfl 3 rfl ?_
    refine r_callS1 (pc := 8) (av := [vI x3]) (S := []) dX11_set_8 (kX11_isBin rfl) mkX11_76 mwX11_isBin rfl ⟨Nat.le_of_ble_eq_true rfl, Nat.le_of_ble_eq_true rfl⟩ (Nat.le_of_ble_eq_true rfl) ⟨Nat.le_refl _, Nat.le_refl _⟩ (fun b => b) ?_
    refine r_ifne (pc := 11) (tgt := 17) dX11_set_11 rfl (fun c => ?_) (fun c => ?_)
    · have h := ie h c
      refine r_aload_n (pc := 17) dX11_set_17 rfl 0 rfl ?_
      obtain ⟨g1, h⟩ := gd h
      obtain ⟨a2, ha2, h⟩ := ob h
      refine r_getS (pc := 18) dX11_set_18 fgX11_20 rfl g1 ha2 ?_
      refine r_iload_n (pc := 21) dX11_set_21 rfl 1 rfl ?_
      obtain ⟨g3, h⟩ := gd h
      obtain ⟨g4, h⟩ := gd h
      refine r_aaload (pc := 22) dX11_set_22 g3 (by decide) g4 ?_
      refine r_astore (pc := 23) (L' := [(4, vR (R a2 (Int32.toNatClampNeg x1))), (0, vR (some t)), (1, vI x1), (2, vI x2), (3, vI x3)]) dX11_set_23 (by decide) rfl ?_
      refine r_aload (pc := 25) dX11_set_25 0 rfl ?_
      refine r_iload_n (pc := 27) dX11_set_27 rfl 3 rfl ?_
      obtain ⟨r6, hc7, h⟩ := ob h
      refine r_callS1 (pc := 28) (av := [vR (R a2 (Int32.toNatClampNeg x1)), vI x2]) (S := []) dX11_set_28 (kX11_placesFault hc7) mkX11_156 mwX11_placesFault rfl ⟨Nat.le_of_ble_eq_true rfl, Nat.le_of_ble_eq_true rfl⟩ (Nat.le_of_ble_eq_true rfl) ⟨Nat.le_refl _, Nat.le_refl _⟩ (fun b => b) ?_
      refine r_istore (pc := 31) (L' := [(5, vI r6), (4, vR (R a2 (Int32.toNatClampNeg x1))), (0, vR (some t)), (1, vI x1), (2, vI x2), (3, vI x3)]) dX11_set_31 (by decide) rfl ?_
      refine r_iload (pc := 33) dX11_set_33 0 rfl ?_
      refine r_ifne (pc := 35) (tgt := 43) dX11_set_35 rfl (fun c => ?_) (fun c => ?_)
      · have h := ie h c
        refine r_aload_n (pc := 43) dX11_set_43 rfl 2 rfl ?_
        refine r_iload (pc := 44) dX11_set_44 0 rfl ?_
        obtain ⟨⟨I8, r9⟩, hc10, h⟩ := ob h
        refine r_callV1 (pc := 46) (av := [vI r6]) (S := []) dX11_set_46 (kX11_fail hc10) g1 rfl mkX11_87 mwX11_fail rfl ⟨Nat.le_of_ble_eq_true rfl, Nat.le_of_ble_eq_true rfl⟩ (Nat.le_of_ble_eq_true rfl) ⟨Nat.le_refl _, Nat.le_refl _⟩ (fun b => b) ?_
        cases h
        exact r_iret dX11_set_49
      · have h := it h c
        refine r_aload (pc := 38) dX11_set_38 1 rfl ?_
        rcases onl_c h with ⟨ea11, h⟩ | ⟨a11, ha11, h⟩
        · refine r_ref0n ea11 ?_
          refine r_ifnonnull_n (pc := 40) dX11_set_40 ?_
          refine r_aload_n (pc := 43) dX11_set_43 rfl 2 rfl ?_
          refine r_iload (pc := 44) dX11_set_44 0 rfl ?_
          obtain ⟨⟨I12, r13⟩, hc14, h⟩ := ob h
          refine r_callV1 (pc := 46) (av := [vI r6]) (S := []) dX11_set_46 (kX11_fail hc14) g1 rfl mkX11_87 mwX11_fail rfl ⟨Nat.le_of_ble_eq_true rfl, Nat.le_of_ble_eq_true rfl⟩ (Nat.le_of_ble_eq_true rfl) ⟨Nat.le_refl _, Nat.le_refl _⟩ (fun b => b) ?_
          cases h
          exact r_iret dX11_set_49
        · refine r_ref0 ha11 ?_
          refine r_ifnonnull_s (pc := 40) (tgt := 50) dX11_set_40 rfl ?_
          refine r_aload (pc := 50) dX11_set_50 1 rfl ?_
          refine r_ref0 ha11 ?_
          obtain ⟨g15, h⟩ := gd h
          refine r_getI (pc := 52) dX11_set_52 fgX11_113 rfl g15 ?_
          refine r_aload_n (pc := 55) dX11_set_55 rfl 2 rfl ?_
          refine r_getS (pc := 56) dX11_set_56 fgX11_20 rfl g1 ha2 ?_
          refine r_iload_n (pc := 59) dX11_set_59 rfl 5 rfl ?_
          obtain ⟨g16, h⟩ := gd h
          refine r_aaload (pc := 60) dX11_set_60 g3 (by decide) g16 ?_
          obtain ⟨r17, hc18, h⟩ := ob h
          refine r_callS1 (pc := 61) (av := [vI (I a11 0), vR (R a2 (Int32.toNatClampNeg x3))]) (S := []) dX11_set_61 (kX11_takes hc18) mkX11_160 mwX11_takes rfl ⟨Nat.le_of_ble_eq_true rfl, Nat.le_of_ble_eq_true rfl⟩ (Nat.le_of_ble_eq_true rfl) ⟨Nat.le_refl _, Nat.le_refl _⟩ (fun b => b) ?_
          refine r_ifne (pc := 64) (tgt := 73) dX11_set_64 rfl (fun c => ?_) (fun c => ?_)
          · have h := ie h c
            refine r_aload (pc := 73) dX11_set_73 1 rfl ?_
            refine r_ref0 ha11 ?_
            obtain ⟨a19, ha19, h⟩ := ob h
            refine r_getS (pc := 75) dX11_set_75 fgX11_101 rfl g15 ha19 ?_
            refine r_iload_n (pc := 78) dX11_set_78 rfl 4 rfl ?_
            refine r_aload_n (pc := 79) dX11_set_79 rfl 2 rfl ?_
            refine r_getS (pc := 80) dX11_set_80 fgX11_20 rfl g1 ha2 ?_
            refine r_iload_n (pc := 83) dX11_set_83 rfl 5 rfl ?_
            refine r_aaload (pc := 84) dX11_set_84 g3 (by decide) g16 ?_
            obtain ⟨g20, h⟩ := gd h
            obtain ⟨g21, h⟩ := gd h
            obtain ⟨g22, h⟩ := gd h
            refine r_aastore (c := 10) (pc := 85) dX11_set_85 g20 (by decide) g21 g22 ?_
            refine r_iconst (pc := 86) dX11_set_86 kc_iconst_1 ?_
            cases h
            exact r_iret dX11_set_87
          · have h := it h c
            refine r_aload_n (pc := 67) dX11_set_67 rfl 2 rfl ?_
            refine r_iconst (pc := 68) dX11_set_68 kc_iconst_5 ?_
            obtain ⟨⟨I24, r25⟩, hc26, h⟩ := ob h
            refine r_callV1 (pc := 69) (av := [vI (5 : Int32)]) (S := []) dX11_set_69 (kX11_fail hc26) g1 rfl mkX11_87 mwX11_fail rfl ⟨Nat.le_of_ble_eq_true rfl, Nat.le_of_ble_eq_true rfl⟩ (Nat.le_of_ble_eq_true rfl) ⟨Nat.le_refl _, Nat.le_refl _⟩ (fun b => b) ?_
            cases h
            exact r_iret dX11_set_72
    · have h := it h c
      refine r_bipush (pc := 14) dX11_set_14 kc_bipush_m2 ?_
      cases h
      exact r_iret dX11_set_16
abbrev WX11_lift (G : Gx) (l : Launch) (σ0 : Shp) (X1 : Stt) (rv : Option SV) : Stt → Nat → List (Nat × SV) → List SV → Prop := Wm G l yX11_lift cX11_lift 5 (some .int) (fun _ => True) (rmx 4 86 σ0 X1.1) σ0 (Qmx G σ0 X1 rv)
def fX11_lift (σ : Shp) (I : Nat → Nat → Int32) (R : Nat → Nat → Option Nat) (t : Nat) (x1 : Int32) (x2 : Int32) (x3 : Int32) : Option ((Nat → Nat → Int32) × (Nat → Nat → Option Nat) × (Int32)) :=
  if (fX11_isBin x1) = 0 then
    some (I, R, (-2 : Int32))
  else
    if (fX11_isBin x2) = 0 then
      some (I, R, (-2 : Int32))
    else
      if kdx σ t = 12 then
      ((R t 1) : Option Nat).bind fun a2 =>
      if kdx σ a2 = 26 then
      if ¬ (x2 < 0 ∨ lnx σ a2 ≤ Int32.toNatClampNeg x2) then
      (fX11_placesFault σ I R (R a2 (Int32.toNatClampNeg x2)) x3).bind fun r5 =>
      if r5 = 0 then
        (fX11_placeOf σ R (R a2 (Int32.toNatClampNeg x2)) x3).bind fun r7 =>
        if ¬ (x1 < 0 ∨ lnx σ a2 ≤ Int32.toNatClampNeg x1) then
        if okR σ 11 r7 = true then
        let R11 := u2 R a2 (Int32.toNatClampNeg x1) r7
        some (I, R11, (1 : Int32))
        else none
        else none
      else
        (fX11_fail σ I t r5).bind fun (I12, r13) =>
        some (I12, R, r13)
      else none
      else none
      else none
theorem kX11_lift {G : Gx} {l : Launch} {σ : Shp} {I : Nat → Nat → Int32} {J : Nat → Nat → Int64} {D : Nat → Nat → UInt64} {R : Nat → Nat → Option Nat} {t : Nat} {x1 : Int32} {x2 : Int32} {x3 : Int32} {I9 : Nat → Nat → Int32} {R9 : Nat → Nat → Option Nat} {r9 : Int32} (h : fX11_lift σ I R t x1 x2 x3 = some (I9, R9, r9)) : Con G l yX11_lift cX11_lift 5 (some .int) 4 86 [vR (some t), vI x1, vI x2, vI x3] (σ, I, J, D, R) (σ, I9, J, D, R9) (some (vI r9)) := by
  unfold fX11_lift at h
  refine Con.mk (by decide +kernel) rfl (Nat.le_of_ble_eq_true rfl) ?_
  show WX11_lift G l σ (σ, I9, J, D, R9) (some (vI r9)) (σ, I, J, D, R) 0 _ []
  refine r_iload_n (pc := 0) dX11_lift_0 rfl 1 rfl ?_
  refine r_callS1 (pc := 1) (av := [vI x1]) (S := []) dX11_lift_1 (kX11_isBin rfl) mkX11_76 mwX11_isBin rfl ⟨Nat.le_of_ble_eq_true rfl, Nat.le_of_ble_eq_true rfl⟩ (Nat.le_of_ble_eq_true rfl) ⟨Nat.le_refl _, Nat.le_refl _⟩ (fun b => b) ?_
  refine r_if_eq (pc := 4) (tgt := 14) dX11_lift_4 rfl (fun c => ?_) (fun c => ?_)
  · have h := it h c
    refine r_bipush (pc := 14) dX11_lift_14 kc_bipush_m2 ?_
    cases h
    exact r_iret dX11_lift_16
  · have h := ie h c
    refine r_iload_n (pc := 7) dX11_lift_7 rfl 2 rfl ?_
    refine r_callS1 (pc := 8) (av := [vI x2]) (S := []) dX11_lift_8 (kX11_isBin rfl) mkX11_76 mwX11_isBin rfl ⟨Nat.le_of_ble_eq_true rfl, Nat.le_of_ble_eq_true rfl⟩ (Nat.le_of_ble_eq_true rfl) ⟨Nat.le_refl _, Nat.le_refl _⟩ (fun b => b) ?_
    refine r_ifne (pc := 11) (tgt := 17) dX11_lift_11 rfl (fun c => ?_) (fun c => ?_)
    · have h := ie h c
      refine r_aload_n (pc := 17) dX11_lift_17 rfl 0 rfl ?_
      obtain ⟨g1, h⟩ := gd h
      obtain ⟨a2, ha2, h⟩ := ob h
      refine r_getS (pc := 18) dX11_lift_18 fgX11_20 rfl g1 ha2 ?_
      refine r_iload_n (pc := 21) dX11_lift_21 rfl 2 rfl ?_
      obtain ⟨g3, h⟩ := gd h
      obtain ⟨g4, h⟩ := gd h
      refine r_aaload (pc := 22) dX11_lift_22 g3 (by decide) g4 ?_
      refine r_iload_n (pc := 23) dX11_lift_23 rfl 3 rfl ?_
      obtain ⟨r5, hc6, h⟩ := ob h
      refine r_callS1 (pc := 24) (av := [vR (R a2 (Int32.toNatClampNeg x2)), vI x3]) (S := []) dX11_lift_24 (kX11_placesFault hc6) mkX11_156 mwX11_placesFault rfl ⟨Nat.le_of_ble_eq_true rfl, Nat.le_of_ble_eq_true rfl⟩ (Nat.le_of_ble_eq_true rfl) ⟨Nat.le_refl _, Nat.le_refl _⟩ (fun b => b) ?_
      refine r_istore (pc := 27) (L' := [(4, vI r5), (0, vR (some t)), (1, vI x1), (2, vI x2), (3, vI x3)]) dX11_lift_27 (by decide) rfl ?_
      refine r_iload (pc := 29) dX11_lift_29 0 rfl ?_
      refine r_if_eq (pc := 31) (tgt := 41) dX11_lift_31 rfl (fun c => ?_) (fun c => ?_)
      · have h := it h c
        refine r_aload_n (pc := 41) dX11_lift_41 rfl 1 rfl ?_
        refine r_getS (pc := 42) dX11_lift_42 fgX11_20 rfl g1 ha2 ?_
        refine r_iload_n (pc := 45) dX11_lift_45 rfl 2 rfl ?_
        refine r_aload_n (pc := 46) dX11_lift_46 rfl 1 rfl ?_
        refine r_getS (pc := 47) dX11_lift_47 fgX11_20 rfl g1 ha2 ?_
        refine r_iload_n (pc := 50) dX11_lift_50 rfl 3 rfl ?_
        refine r_aaload (pc := 51) dX11_lift_51 g3 (by decide) g4 ?_
        refine r_iload_n (pc := 52) dX11_lift_52 rfl 4 rfl ?_
        obtain ⟨r7, hc8, h⟩ := ob h
        refine r_callS1 (pc := 53) (av := [vR (R a2 (Int32.toNatClampNeg x2)), vI x3]) (S := [vI x1, vR (some a2)]) dX11_lift_53 (kX11_placeOf hc8) mkX11_152 mwX11_placeOf rfl ⟨Nat.le_of_ble_eq_true rfl, Nat.le_of_ble_eq_true rfl⟩ (Nat.le_of_ble_eq_true rfl) ⟨Nat.le_refl _, Nat.le_refl _⟩ (fun b => b) ?_
        obtain ⟨g9, h⟩ := gd h
        obtain ⟨g10, h⟩ := gd h
        refine r_aastore (c := 10) (pc := 56) dX11_lift_56 g3 (by decide) g9 g10 ?_
        refine r_iconst (pc := 57) dX11_lift_57 kc_iconst_1 ?_
        cases h
        exact r_iret dX11_lift_58
      · have h := ie h c
        refine r_aload_n (pc := 34) dX11_lift_34 rfl 1 rfl ?_
        refine r_iload (pc := 35) dX11_lift_35 0 rfl ?_
        obtain ⟨⟨I12, r13⟩, hc14, h⟩ := ob h
        refine r_callV1 (pc := 37) (av := [vI r5]) (S := []) dX11_lift_37 (kX11_fail hc14) g1 rfl mkX11_87 mwX11_fail rfl ⟨Nat.le_of_ble_eq_true rfl, Nat.le_of_ble_eq_true rfl⟩ (Nat.le_of_ble_eq_true rfl) ⟨Nat.le_refl _, Nat.le_refl _⟩ (fun b => b) ?_
        cases h
        exact r_iret dX11_lift_40
    · have h := it h c
      refine r_bipush (pc := 14) dX11_lift_14 kc_bipush_m2 ?_
      cases h
      exact r_iret dX11_lift_16
abbrev WX11_liftAs (G : Gx) (l : Launch) (σ0 : Shp) (X1 : Stt) (rv : Option SV) : Stt → Nat → List (Nat × SV) → List SV → Prop := Wm G l yX11_liftAs cX11_liftAs 7 (some .int) (fun _ => True) (rmx 4 86 σ0 X1.1) σ0 (Qmx G σ0 X1 rv)
def fX11_liftAs (σ : Shp) (I : Nat → Nat → Int32) (R : Nat → Nat → Option Nat) (t : Nat) (x1 : Int32) (x2 : Int32) (x3 : Int32) (x4 : Int32) : Option ((Nat → Nat → Int32) × (Nat → Nat → Option Nat) × (Int32)) :=
  if (fX11_isBin x1) = 0 then
    some (I, R, (-2 : Int32))
  else
    if (fX11_isBin x2) = 0 then
      some (I, R, (-2 : Int32))
    else
      if (fX11_isForm x4) = 0 then
        some (I, R, (-2 : Int32))
      else
        if kdx σ t = 12 then
        ((R t 1) : Option Nat).bind fun a2 =>
        if kdx σ a2 = 26 then
        if ¬ (x2 < 0 ∨ lnx σ a2 ≤ Int32.toNatClampNeg x2) then
        (fX11_placesFault σ I R (R a2 (Int32.toNatClampNeg x2)) x3).bind fun r5 =>
        if r5 = 0 then
          (fX11_placeOf σ R (R a2 (Int32.toNatClampNeg x2)) x3).bind fun r7 =>
          (fX11_goesFor σ I r7 x4).bind fun r9 =>
          if r9 = 0 then
            (fX11_fail σ I t (4 : Int32)).bind fun (I14, r15) =>
            some (I14, R, r15)
          else
            if ¬ (x1 < 0 ∨ lnx σ a2 ≤ Int32.toNatClampNeg x1) then
            if okR σ 11 r7 = true then
            let R13 := u2 R a2 (Int32.toNatClampNeg x1) r7
            some (I, R13, (1 : Int32))
            else none
            else none
        else
          (fX11_fail σ I t r5).bind fun (I17, r18) =>
          some (I17, R, r18)
        else none
        else none
        else none
theorem kX11_liftAs {G : Gx} {l : Launch} {σ : Shp} {I : Nat → Nat → Int32} {J : Nat → Nat → Int64} {D : Nat → Nat → UInt64} {R : Nat → Nat → Option Nat} {t : Nat} {x1 : Int32} {x2 : Int32} {x3 : Int32} {x4 : Int32} {I9 : Nat → Nat → Int32} {R9 : Nat → Nat → Option Nat} {r9 : Int32} (h : fX11_liftAs σ I R t x1 x2 x3 x4 = some (I9, R9, r9)) : Con G l yX11_liftAs cX11_liftAs 7 (some .int) 4 86 [vR (some t), vI x1, vI x2, vI x3, vI x4] (σ, I, J, D, R) (σ, I9, J, D, R9) (some (vI r9)) := by
  unfold fX11_liftAs at h
  refine Con.mk (by decide +kernel) rfl (Nat.le_of_ble_eq_true rfl) ?_
  show WX11_liftAs G l σ (σ, I9, J, D, R9) (some (vI r9)) (σ, I, J, D, R) 0 _ []
  refine r_iload_n (pc := 0) dX11_liftAs_0 rfl 1 rfl ?_
  refine r_callS1 (pc := 1) (av := [vI x1]) (S := []) dX11_liftAs_1 (kX11_isBin rfl) mkX11_76 mwX11_isBin rfl ⟨Nat.le_of_ble_eq_true rfl, Nat.le_of_ble_eq_true rfl⟩ (Nat.le_of_ble_eq_true rfl) ⟨Nat.le_refl _, Nat.le_refl _⟩ (fun b => b) ?_
  refine r_if_eq (pc := 4) (tgt := 22) dX11_liftAs_4 rfl (fun c => ?_) (fun c => ?_)
  · have h := it h c
    refine r_bipush (pc := 22) dX11_liftAs_22 kc_bipush_m2 ?_
    cases h
    exact r_iret dX11_liftAs_24
  · have h := ie h c
    refine r_iload_n (pc := 7) dX11_liftAs_7 rfl 2 rfl ?_
    refine r_callS1 (pc := 8) (av := [vI x2]) (S := []) dX11_liftAs_8 (kX11_isBin rfl) mkX11_76 mwX11_isBin rfl ⟨Nat.le_of_ble_eq_true rfl, Nat.le_of_ble_eq_true rfl⟩ (Nat.le_of_ble_eq_true rfl) ⟨Nat.le_refl _, Nat.le_refl _⟩ (fun b => b) ?_
    refine r_if_eq (pc := 11) (tgt := 22) dX11_liftAs_11 rfl (fun c => ?_) (fun c => ?_)
    · have h := it h c
      refine r_bipush (pc := 22) dX11_liftAs_22 kc_bipush_m2 ?_
      cases h
      exact r_iret dX11_liftAs_24
    · have h := ie h c
      refine r_iload (pc := 14) dX11_liftAs_14 4 rfl ?_
      refine r_callS1 (pc := 16) (av := [vI x4]) (S := []) dX11_liftAs_16 (kX11_isForm rfl) mkX11_117 mwX11_isForm rfl ⟨Nat.le_of_ble_eq_true rfl, Nat.le_of_ble_eq_true rfl⟩ (Nat.le_of_ble_eq_true rfl) ⟨Nat.le_refl _, Nat.le_refl _⟩ (fun b => b) ?_
      refine r_ifne (pc := 19) (tgt := 25) dX11_liftAs_19 rfl (fun c => ?_) (fun c => ?_)
      · have h := ie h c
        refine r_aload_n (pc := 25) dX11_liftAs_25 rfl 0 rfl ?_
        obtain ⟨g1, h⟩ := gd h
        obtain ⟨a2, ha2, h⟩ := ob h
        refine r_getS (pc := 26) dX11_liftAs_26 fgX11_20 rfl g1 ha2 ?_
        refine r_iload_n (pc := 29) dX11_liftAs_29 rfl 2 rfl ?_
        obtain ⟨g3, h⟩ := gd h
        obtain ⟨g4, h⟩ := gd h
        refine r_aaload (pc := 30) dX11_liftAs_30 g3 (by decide) g4 ?_
        refine r_iload_n (pc := 31) dX11_liftAs_31 rfl 3 rfl ?_
        obtain ⟨r5, hc6, h⟩ := ob h
        refine r_callS1 (pc := 32) (av := [vR (R a2 (Int32.toNatClampNeg x2)), vI x3]) (S := []) dX11_liftAs_32 (kX11_placesFault hc6) mkX11_156 mwX11_placesFault rfl ⟨Nat.le_of_ble_eq_true rfl, Nat.le_of_ble_eq_true rfl⟩ (Nat.le_of_ble_eq_true rfl) ⟨Nat.le_refl _, Nat.le_refl _⟩ (fun b => b) ?_
        refine r_istore (pc := 35) (L' := [(5, vI r5), (0, vR (some t)), (1, vI x1), (2, vI x2), (3, vI x3), (4, vI x4)]) dX11_liftAs_35 (by decide) rfl ?_
        refine r_iload (pc := 37) dX11_liftAs_37 0 rfl ?_
        refine r_if_eq (pc := 39) (tgt := 49) dX11_liftAs_39 rfl (fun c => ?_) (fun c => ?_)
        · have h := it h c
          refine r_aload_n (pc := 49) dX11_liftAs_49 rfl 1 rfl ?_
          refine r_getS (pc := 50) dX11_liftAs_50 fgX11_20 rfl g1 ha2 ?_
          refine r_iload_n (pc := 53) dX11_liftAs_53 rfl 3 rfl ?_
          refine r_aaload (pc := 54) dX11_liftAs_54 g3 (by decide) g4 ?_
          refine r_iload_n (pc := 55) dX11_liftAs_55 rfl 4 rfl ?_
          obtain ⟨r7, hc8, h⟩ := ob h
          refine r_callS1 (pc := 56) (av := [vR (R a2 (Int32.toNatClampNeg x2)), vI x3]) (S := []) dX11_liftAs_56 (kX11_placeOf hc8) mkX11_152 mwX11_placeOf rfl ⟨Nat.le_of_ble_eq_true rfl, Nat.le_of_ble_eq_true rfl⟩ (Nat.le_of_ble_eq_true rfl) ⟨Nat.le_refl _, Nat.le_refl _⟩ (fun b => b) ?_
          refine r_astore (pc := 59) (L' := [(6, vR r7), (5, vI r5), (0, vR (some t)), (1, vI x1), (2, vI x2), (3, vI x3), (4, vI x4)]) dX11_liftAs_59 (by decide) rfl ?_
          refine r_aload (pc := 61) dX11_liftAs_61 0 rfl ?_
          refine r_iload (pc := 63) dX11_liftAs_63 6 rfl ?_
          obtain ⟨r9, hc10, h⟩ := ob h
          refine r_callS1 (pc := 65) (av := [vR r7, vI x4]) (S := []) dX11_liftAs_65 (kX11_goesFor hc10) mkX11_164 mwX11_goesFor rfl ⟨Nat.le_of_ble_eq_true rfl, Nat.le_of_ble_eq_true rfl⟩ (Nat.le_of_ble_eq_true rfl) ⟨Nat.le_refl _, Nat.le_refl _⟩ (fun b => b) ?_
          refine r_ifne (pc := 68) (tgt := 77) dX11_liftAs_68 rfl (fun c => ?_) (fun c => ?_)
          · have h := ie h c
            refine r_aload_n (pc := 77) dX11_liftAs_77 rfl 2 rfl ?_
            refine r_getS (pc := 78) dX11_liftAs_78 fgX11_20 rfl g1 ha2 ?_
            refine r_iload_n (pc := 81) dX11_liftAs_81 rfl 3 rfl ?_
            refine r_aload (pc := 82) dX11_liftAs_82 0 rfl ?_
            obtain ⟨g11, h⟩ := gd h
            obtain ⟨g12, h⟩ := gd h
            refine r_aastore (c := 10) (pc := 84) dX11_liftAs_84 g3 (by decide) g11 g12 ?_
            refine r_iconst (pc := 85) dX11_liftAs_85 kc_iconst_1 ?_
            cases h
            exact r_iret dX11_liftAs_86
          · have h := it h c
            refine r_aload_n (pc := 71) dX11_liftAs_71 rfl 2 rfl ?_
            refine r_iconst (pc := 72) dX11_liftAs_72 kc_iconst_4 ?_
            obtain ⟨⟨I14, r15⟩, hc16, h⟩ := ob h
            refine r_callV1 (pc := 73) (av := [vI (4 : Int32)]) (S := []) dX11_liftAs_73 (kX11_fail hc16) g1 rfl mkX11_87 mwX11_fail rfl ⟨Nat.le_of_ble_eq_true rfl, Nat.le_of_ble_eq_true rfl⟩ (Nat.le_of_ble_eq_true rfl) ⟨Nat.le_refl _, Nat.le_refl _⟩ (fun b => b) ?_
            cases h
            exact r_iret dX11_liftAs_76
        · have h := ie h c
          refine r_aload_n (pc := 42) dX11_liftAs_42 rfl 1 rfl ?_
          refine r_iload (pc := 43) dX11_liftAs_43 0 rfl ?_
          obtain ⟨⟨I17, r18⟩, hc19, h⟩ := ob h
          refine r_callV1 (pc := 45) (av := [vI r5]) (S := []) dX11_liftAs_45 (kX11_fail hc19) g1 rfl mkX11_87 mwX11_fail rfl ⟨Nat.le_of_ble_eq_true rfl, Nat.le_of_ble_eq_true rfl⟩ (Nat.le_of_ble_eq_true rfl) ⟨Nat.le_refl _, Nat.le_refl _⟩ (fun b => b) ?_
          cases h
          exact r_iret dX11_liftAs_48
      · have h := it h c
        refine r_bipush (pc := 22) dX11_liftAs_22 kc_bipush_m2 ?_
        cases h
        exact r_iret dX11_liftAs_24
abbrev WX11_isRow (G : Gx) (l : Launch) (σ0 : Shp) (X1 : Stt) (rv : Option SV) : Stt → Nat → List (Nat × SV) → List SV → Prop := Wm G l yX11_isRow cX11_isRow 1 (some .boolean) (fun _ => True) (rmx 0 0 σ0 X1.1) σ0 (Qmx G σ0 X1 rv)
def fX11_isRow (σ : Shp) (I : Nat → Nat → Int32) (x0 : Option Nat) : Option ((Int32)) :=
  (x0 : Option Nat).bind fun a1 =>
  if kdx σ a1 = 11 then
  if (7 : Int32) < (I a1 0) then
    some (0 : Int32)
  else
    some (1 : Int32)
  else none
theorem kX11_isRow {G : Gx} {l : Launch} {σ : Shp} {I : Nat → Nat → Int32} {J : Nat → Nat → Int64} {D : Nat → Nat → UInt64} {R : Nat → Nat → Option Nat} {x0 : Option Nat} {r9 : Int32} (h : fX11_isRow σ I x0 = some r9) : Con G l yX11_isRow cX11_isRow 1 (some .boolean) 0 0 [vR x0] (σ, I, J, D, R) (σ, I, J, D, R) (some (vI r9)) := by
  unfold fX11_isRow at h
  refine Con.mk (by decide +kernel) rfl (Nat.le_of_ble_eq_true rfl) ?_
  show WX11_isRow G l σ (σ, I, J, D, R) (some (vI r9)) (σ, I, J, D, R) 0 _ []
  refine r_aload_n (pc := 0) dX11_isRow_0 rfl 0 rfl ?_
  obtain ⟨a1, ha1, h⟩ := ob h
  refine r_ref0 ha1 ?_
  obtain ⟨g2, h⟩ := gd h
  refine r_getI (pc := 1) dX11_isRow_1 fgX11_113 rfl g2 ?_
  refine r_bipush (pc := 4) dX11_isRow_4 kc_bipush_7 ?_
  refine r_icmp_gt (pc := 6) (tgt := 13) dX11_isRow_6 rfl (fun c => ?_) (fun c => ?_)
  · have h := it h c
    refine r_iconst (pc := 13) dX11_isRow_13 kc_iconst_0 ?_
    cases h
    exact r_zret dX11_isRow_14 (Or.inl rfl)
  · have h := ie h c
    refine r_iconst (pc := 9) dX11_isRow_9 kc_iconst_1 ?_
    refine r_goto (pc := 10) (tgt := 14) dX11_isRow_10 rfl ?_
    cases h
    exact r_zret dX11_isRow_14 (Or.inr rfl)
abbrev WX11_leadTaken (G : Gx) (l : Launch) (σ0 : Shp) (X1 : Stt) (rv : Option SV) : Stt → Nat → List (Nat × SV) → List SV → Prop := Wm G l yX11_leadTaken cX11_leadTaken 5 (some .int) (fun _ => True) (rmx 3 62 σ0 X1.1) σ0 (Qmx G σ0 X1 rv)
def fX11_leadTaken_l3  (σ : Shp) (I : Nat → Nat → Int32) (R : Nat → Nat → Option Nat) : Nat → (Option Nat) → (Int32) → (Option Nat) → (Int32) → (Int32) → Option ((Int32))
  | 0, _, _, _, _, _ => none
  | n + 1, x0, x1, x2, x3, x4 =>
    if x3 ≤ x4 then
      some x3
    else
      (x2 : Option Nat).bind fun a1 =>
      if kdx σ a1 = 11 then
      (fX11_placeOf σ R x0 (x1 + x4)).bind fun r3 =>
      (fX11_takes σ I (I a1 0) r3).bind fun r5 =>
      if r5 = 0 then
        some x4
      else
        let v7 := x4 + (1 : Int32)
        fX11_leadTaken_l3 σ I R n x0 x1 x2 x3 v7
      else none
theorem wX11_leadTaken_l3 {G : Gx} {l : Launch} {σ : Shp} {I : Nat → Nat → Int32} {J : Nat → Nat → Int64} {D : Nat → Nat → UInt64} {R : Nat → Nat → Option Nat} {r9 : Int32} : ∀ (n : Nat) (x0 : Option Nat) (x1 : Int32) (x2 : Option Nat) (x3 : Int32) (x4 : Int32), fX11_leadTaken_l3 σ I R n x0 x1 x2 x3 x4 = some r9 → WX11_leadTaken G l σ (σ, I, J, D, R) (some (vI r9)) (σ, I, J, D, R) 3 [(0, vR x0), (1, vI x1), (2, vR x2), (3, vI x3), (4, vI x4)] [] := by
  intro n
  induction n with
  | zero =>
    intro x0 x1 x2 x3 x4 h
    have h : none = some _ := h
    cases h
  | succ n ih =>
    intro x0 x1 x2 x3 x4 h
    rw [fX11_leadTaken_l3] at h
    refine r_iload (pc := 3) dX11_leadTaken_3 4 rfl ?_
    refine r_iload_n (pc := 5) dX11_leadTaken_5 rfl 3 rfl ?_
    refine r_icmp_ge (pc := 6) (tgt := 36) dX11_leadTaken_6 rfl (fun c => ?_) (fun c => ?_)
    · have h := it h c
      refine r_iload_n (pc := 36) dX11_leadTaken_36 rfl 3 rfl ?_
      cases h
      exact r_iret dX11_leadTaken_37
    · have h := ie h c
      refine r_aload_n (pc := 9) dX11_leadTaken_9 rfl 2 rfl ?_
      obtain ⟨a1, ha1, h⟩ := ob h
      refine r_ref0 ha1 ?_
      obtain ⟨g2, h⟩ := gd h
      refine r_getI (pc := 10) dX11_leadTaken_10 fgX11_113 rfl g2 ?_
      refine r_aload_n (pc := 13) dX11_leadTaken_13 rfl 0 rfl ?_
      refine r_iload_n (pc := 14) dX11_leadTaken_14 rfl 1 rfl ?_
      refine r_iload (pc := 15) dX11_leadTaken_15 4 rfl ?_
      refine r_iadd (pc := 17) dX11_leadTaken_17 ?_
      obtain ⟨r3, hc4, h⟩ := ob h
      refine r_callS1 (pc := 18) (av := [vR x0, vI (x1 + x4)]) (S := [vI (I a1 0)]) dX11_leadTaken_18 (kX11_placeOf hc4) mkX11_152 mwX11_placeOf rfl ⟨Nat.le_of_ble_eq_true rfl, Nat.le_of_ble_eq_true rfl⟩ (Nat.le_of_ble_eq_true rfl) ⟨Nat.le_refl _, Nat.le_refl _⟩ (fun b => b) ?_
      obtain ⟨r5, hc6, h⟩ := ob h
      refine r_callS1 (pc := 21) (av := [vI (I a1 0), vR r3]) (S := []) dX11_leadTaken_21 (kX11_takes hc6) mkX11_160 mwX11_takes rfl ⟨Nat.le_of_ble_eq_true rfl, Nat.le_of_ble_eq_true rfl⟩ (Nat.le_of_ble_eq_true rfl) ⟨Nat.le_refl _, Nat.le_refl _⟩ (fun b => b) ?_
      refine r_ifne (pc := 24) (tgt := 30) dX11_leadTaken_24 rfl (fun c => ?_) (fun c => ?_)
      · have h := ie h c
        refine r_iinc (pc := 30) (v := (x4 + (1 : Int32))) (L' := [(4, vI (x4 + (1 : Int32))), (0, vR x0), (1, vI x1), (2, vR x2), (3, vI x3)]) dX11_leadTaken_30 4 rfl (kc_inc_1 _) (by decide) rfl ?_
        refine r_goto (pc := 33) (tgt := 3) dX11_leadTaken_33 rfl ?_
        refine r_sub [1, 2, 3, 4, 0] rfl ?_
        exact ih _ _ _ _ _ h
      · have h := it h c
        refine r_iload (pc := 27) dX11_leadTaken_27 4 rfl ?_
        cases h
        exact r_iret dX11_leadTaken_29
def fX11_leadTaken (σ : Shp) (I : Nat → Nat → Int32) (R : Nat → Nat → Option Nat) (x0 : Option Nat) (x1 : Int32) (x2 : Option Nat) (x3 : Int32) : Option ((Int32)) :=
  fX11_leadTaken_l3 σ I R FUx x0 x1 x2 x3 (0 : Int32)
theorem kX11_leadTaken {G : Gx} {l : Launch} {σ : Shp} {I : Nat → Nat → Int32} {J : Nat → Nat → Int64} {D : Nat → Nat → UInt64} {R : Nat → Nat → Option Nat} {x0 : Option Nat} {x1 : Int32} {x2 : Option Nat} {x3 : Int32} {r9 : Int32} (h : fX11_leadTaken σ I R x0 x1 x2 x3 = some r9) : Con G l yX11_leadTaken cX11_leadTaken 5 (some .int) 3 62 [vR x0, vI x1, vR x2, vI x3] (σ, I, J, D, R) (σ, I, J, D, R) (some (vI r9)) := by
  unfold fX11_leadTaken at h
  refine Con.mk (by decide +kernel) rfl (Nat.le_of_ble_eq_true rfl) ?_
  show WX11_leadTaken G l σ (σ, I, J, D, R) (some (vI r9)) (σ, I, J, D, R) 0 _ []
  refine r_iconst (pc := 0) dX11_leadTaken_0 kc_iconst_0 ?_
  refine r_istore (pc := 1) (L' := [(4, vI (0 : Int32)), (0, vR x0), (1, vI x1), (2, vR x2), (3, vI x3)]) dX11_leadTaken_1 (by decide) rfl ?_
  refine r_sub [1, 2, 3, 4, 0] rfl ?_
  exact wX11_leadTaken_l3 _ _ _ _ _ _ h
abbrev WX11_spanFits (G : Gx) (l : Launch) (σ0 : Shp) (X1 : Stt) (rv : Option SV) : Stt → Nat → List (Nat × SV) → List SV → Prop := Wm G l yX11_spanFits cX11_spanFits 3 (some .boolean) (fun _ => True) (rmx 0 0 σ0 X1.1) σ0 (Qmx G σ0 X1 rv)
def fX11_spanFits  (x0 : Int32) (x1 : Int32) (x2 : Int32) : (Int32) :=
  if x1 < 0 then
    (0 : Int32)
  else
    if x2 < 0 then
      (0 : Int32)
    else
      if x0 < x2 then
        (0 : Int32)
      else
        if (x0 - x2) < x1 then
          (0 : Int32)
        else
          (1 : Int32)
theorem zX11_spanFits  (x0 : Int32) (x1 : Int32) (x2 : Int32) : fX11_spanFits x0 x1 x2 = 0 ∨ fX11_spanFits x0 x1 x2 = 1 := by
  unfold fX11_spanFits
  repeat' (first | refine itz ?_ ?_ | exact Or.inl rfl | exact Or.inr rfl)
theorem kX11_spanFits {G : Gx} {l : Launch} {σ : Shp} {I : Nat → Nat → Int32} {J : Nat → Nat → Int64} {D : Nat → Nat → UInt64} {R : Nat → Nat → Option Nat} {x0 : Int32} {x1 : Int32} {x2 : Int32} {r9 : Int32} (h : fX11_spanFits x0 x1 x2 = r9) : Con G l yX11_spanFits cX11_spanFits 3 (some .boolean) 0 0 [vI x0, vI x1, vI x2] (σ, I, J, D, R) (σ, I, J, D, R) (some (vI r9)) := by
  unfold fX11_spanFits at h
  refine Con.mk (by decide +kernel) rfl (Nat.le_of_ble_eq_true rfl) ?_
  show WX11_spanFits G l σ (σ, I, J, D, R) (some (vI r9)) (σ, I, J, D, R) 0 _ []
  refine r_iload_n (pc := 0) dX11_spanFits_0 rfl 1 rfl ?_
  refine r_if_lt (pc := 1) (tgt := 24) dX11_spanFits_1 rfl (fun c => ?_) (fun c => ?_)
  · have h := it h c
    refine r_iconst (pc := 24) dX11_spanFits_24 kc_iconst_0 ?_
    subst h
    exact r_zret dX11_spanFits_25 (Or.inl rfl)
  · have h := ie h c
    refine r_iload_n (pc := 4) dX11_spanFits_4 rfl 2 rfl ?_
    refine r_if_lt (pc := 5) (tgt := 24) dX11_spanFits_5 rfl (fun c => ?_) (fun c => ?_)
    · have h := it h c
      refine r_iconst (pc := 24) dX11_spanFits_24 kc_iconst_0 ?_
      subst h
      exact r_zret dX11_spanFits_25 (Or.inl rfl)
    · have h := ie h c
      refine r_iload_n (pc := 8) dX11_spanFits_8 rfl 2 rfl ?_
      refine r_iload_n (pc := 9) dX11_spanFits_9 rfl 0 rfl ?_
      refine r_icmp_gt (pc := 10) (tgt := 24) dX11_spanFits_10 rfl (fun c => ?_) (fun c => ?_)
      · have h := it h c
        refine r_iconst (pc := 24) dX11_spanFits_24 kc_iconst_0 ?_
        subst h
        exact r_zret dX11_spanFits_25 (Or.inl rfl)
      · have h := ie h c
        refine r_iload_n (pc := 13) dX11_spanFits_13 rfl 1 rfl ?_
        refine r_iload_n (pc := 14) dX11_spanFits_14 rfl 0 rfl ?_
        refine r_iload_n (pc := 15) dX11_spanFits_15 rfl 2 rfl ?_
        refine r_isub (pc := 16) dX11_spanFits_16 ?_
        refine r_icmp_gt (pc := 17) (tgt := 24) dX11_spanFits_17 rfl (fun c => ?_) (fun c => ?_)
        · have h := it h c
          refine r_iconst (pc := 24) dX11_spanFits_24 kc_iconst_0 ?_
          subst h
          exact r_zret dX11_spanFits_25 (Or.inl rfl)
        · have h := ie h c
          refine r_iconst (pc := 20) dX11_spanFits_20 kc_iconst_1 ?_
          refine r_goto (pc := 21) (tgt := 25) dX11_spanFits_21 rfl ?_
          subst h
          exact r_zret dX11_spanFits_25 (Or.inr rfl)
abbrev WX11_moveCells (G : Gx) (l : Launch) (σ0 : Shp) (X1 : Stt) (rv : Option SV) : Stt → Nat → List (Nat × SV) → List SV → Prop := Wm G l yX11_moveCells cX11_moveCells 7 none (fun _ => True) (rmx 1 22 σ0 X1.1) σ0 (Qmx G σ0 X1 rv)
def fX11_moveCells_b56 (q32 : (Nat → Nat → Int64) → (Option Nat) → (Int32) → (Option Nat) → (Int32) → (Int32) → (Int32) → (Option ((Nat → Nat → Int64)))) (σ : Shp) (R : Nat → Nat → Option Nat) (J : Nat → Nat → Int64) (x0 : Option Nat) (x1 : Int32) (x2 : Option Nat) (x3 : Int32) (x4 : Int32) (x5 : Int32) (s0 : Int32) : Option ((Nat → Nat → Int64)) :=
  (x2 : Option Nat).bind fun a9 =>
  if kdx σ a9 = 11 then
  ((R a9 1) : Option Nat).bind fun a11 =>
  (x0 : Option Nat).bind fun a12 =>
  if kdx σ a12 = 11 then
  ((R a12 1) : Option Nat).bind fun a14 =>
  if kdx σ a14 = 21 then
  if ¬ ((x1 + s0) < 0 ∨ lnx σ a14 ≤ Int32.toNatClampNeg (x1 + s0)) then
  if kdx σ a11 = 21 then
  if ¬ ((x3 + s0) < 0 ∨ lnx σ a11 ≤ Int32.toNatClampNeg (x3 + s0)) then
  let J19 := u2 J a11 (Int32.toNatClampNeg (x3 + s0)) (J a14 (Int32.toNatClampNeg (x1 + s0)))
  let v20 := x5 + (1 : Int32)
  q32 J19 x0 x1 x2 x3 x4 v20
  else none
  else none
  else none
  else none
  else none
  else none
theorem wX11_moveCells_b56 {G : Gx} {l : Launch} {σ : Shp} {I : Nat → Nat → Int32} {J : Nat → Nat → Int64} {D : Nat → Nat → UInt64} {R : Nat → Nat → Option Nat} {J9 : Nat → Nat → Int64} {q32 : (Nat → Nat → Int64) → (Option Nat) → (Int32) → (Option Nat) → (Int32) → (Int32) → (Int32) → (Option ((Nat → Nat → Int64)))} {x0 : Option Nat} {x1 : Int32} {x2 : Option Nat} {x3 : Int32} {x4 : Int32} {x5 : Int32} {s0 : Int32} (hq32 : ∀ (J : Nat → Nat → Int64) (x0 : Option Nat) (x1 : Int32) (x2 : Option Nat) (x3 : Int32) (x4 : Int32) (x5 : Int32), q32 J x0 x1 x2 x3 x4 x5 = some J9 → WX11_moveCells G l σ (σ, I, J9, D, R) none (σ, I, J, D, R) 32 [(0, vR x0), (1, vI x1), (2, vR x2), (3, vI x3), (4, vI x4), (5, vI x5)] []) (h : fX11_moveCells_b56 q32 σ R J x0 x1 x2 x3 x4 x5 s0 = some J9) : WX11_moveCells G l σ (σ, I, J9, D, R) none (σ, I, J, D, R) 56 [(0, vR x0), (1, vI x1), (2, vR x2), (3, vI x3), (4, vI x4), (5, vI x5)] [vI s0] := by
  unfold fX11_moveCells_b56 at h
  refine r_istore (pc := 56) (L' := [(6, vI s0), (0, vR x0), (1, vI x1), (2, vR x2), (3, vI x3), (4, vI x4), (5, vI x5)]) dX11_moveCells_56 (by decide) rfl ?_
  refine r_aload_n (pc := 58) dX11_moveCells_58 rfl 3 rfl ?_
  obtain ⟨a9, ha9, h⟩ := ob h
  refine r_ref0 ha9 ?_
  obtain ⟨g10, h⟩ := gd h
  obtain ⟨a11, ha11, h⟩ := ob h
  refine r_getS (pc := 59) dX11_moveCells_59 fgX11_134 rfl g10 ha11 ?_
  refine r_iload_n (pc := 62) dX11_moveCells_62 rfl 4 rfl ?_
  refine r_iload (pc := 63) dX11_moveCells_63 0 rfl ?_
  refine r_iadd (pc := 65) dX11_moveCells_65 ?_
  refine r_aload_n (pc := 66) dX11_moveCells_66 rfl 1 rfl ?_
  obtain ⟨a12, ha12, h⟩ := ob h
  refine r_ref0 ha12 ?_
  obtain ⟨g13, h⟩ := gd h
  obtain ⟨a14, ha14, h⟩ := ob h
  refine r_getS (pc := 67) dX11_moveCells_67 fgX11_134 rfl g13 ha14 ?_
  refine r_iload_n (pc := 70) dX11_moveCells_70 rfl 2 rfl ?_
  refine r_iload (pc := 71) dX11_moveCells_71 0 rfl ?_
  refine r_iadd (pc := 73) dX11_moveCells_73 ?_
  obtain ⟨g15, h⟩ := gd h
  obtain ⟨g16, h⟩ := gd h
  refine r_laload (pc := 74) dX11_moveCells_74 g15 g16 ?_
  obtain ⟨g17, h⟩ := gd h
  obtain ⟨g18, h⟩ := gd h
  refine r_lastore (pc := 75) dX11_moveCells_75 g17 g18 ?_
  refine r_iinc (pc := 76) (v := (x5 + (1 : Int32))) (L' := [(5, vI (x5 + (1 : Int32))), (6, vI s0), (0, vR x0), (1, vI x1), (2, vR x2), (3, vI x3), (4, vI x4)]) dX11_moveCells_76 6 rfl (kc_inc_1 _) (by decide) rfl ?_
  refine r_goto (pc := 79) (tgt := 32) dX11_moveCells_79 rfl ?_
  refine r_sub [2, 3, 4, 5, 6, 0] rfl ?_
  exact hq32 _ _ _ _ _ _ _ h
def fX11_moveCells_l32  (σ : Shp) (R : Nat → Nat → Option Nat) : Nat → (Nat → Nat → Int64) → (Option Nat) → (Int32) → (Option Nat) → (Int32) → (Int32) → (Int32) → Option ((Nat → Nat → Int64))
  | 0, _, _, _, _, _, _, _ => none
  | n + 1, J, x0, x1, x2, x3, x4, x5 =>
    if x4 ≤ x5 then
      some J
    else
      if x3 ≤ x1 then
        fX11_moveCells_b56 (fX11_moveCells_l32 σ R n) σ R J x0 x1 x2 x3 x4 x5 x5
      else
        fX11_moveCells_b56 (fX11_moveCells_l32 σ R n) σ R J x0 x1 x2 x3 x4 x5 ((x4 - (1 : Int32)) - x5)
theorem wX11_moveCells_l32 {G : Gx} {l : Launch} {σ : Shp} {I : Nat → Nat → Int32} {D : Nat → Nat → UInt64} {R : Nat → Nat → Option Nat} {J9 : Nat → Nat → Int64} : ∀ (n : Nat) (J : Nat → Nat → Int64) (x0 : Option Nat) (x1 : Int32) (x2 : Option Nat) (x3 : Int32) (x4 : Int32) (x5 : Int32), fX11_moveCells_l32 σ R n J x0 x1 x2 x3 x4 x5 = some J9 → WX11_moveCells G l σ (σ, I, J9, D, R) none (σ, I, J, D, R) 32 [(0, vR x0), (1, vI x1), (2, vR x2), (3, vI x3), (4, vI x4), (5, vI x5)] [] := by
  intro n
  induction n with
  | zero =>
    intro J x0 x1 x2 x3 x4 x5 h
    have h : none = some _ := h
    cases h
  | succ n ih =>
    intro J x0 x1 x2 x3 x4 x5 h
    rw [fX11_moveCells_l32] at h
    refine r_iload (pc := 32) dX11_moveCells_32 5 rfl ?_
    refine r_iload (pc := 34) dX11_moveCells_34 4 rfl ?_
    refine r_icmp_ge (pc := 36) (tgt := 82) dX11_moveCells_36 rfl (fun c => ?_) (fun c => ?_)
    · have h := it h c
      cases h
      exact r_vret dX11_moveCells_82
    · have h := ie h c
      refine r_iload_n (pc := 39) dX11_moveCells_39 rfl 3 rfl ?_
      refine r_iload_n (pc := 40) dX11_moveCells_40 rfl 1 rfl ?_
      refine r_icmp_le (pc := 41) (tgt := 54) dX11_moveCells_41 rfl (fun c => ?_) (fun c => ?_)
      · have h := it h c
        refine r_iload (pc := 54) dX11_moveCells_54 5 rfl ?_
        refine r_sub [0, 1, 2, 3, 4, 5] rfl ?_
        exact wX11_moveCells_b56 ih h
      · have h := ie h c
        refine r_iload (pc := 44) dX11_moveCells_44 4 rfl ?_
        refine r_iconst (pc := 46) dX11_moveCells_46 kc_iconst_1 ?_
        refine r_isub (pc := 47) dX11_moveCells_47 ?_
        refine r_iload (pc := 48) dX11_moveCells_48 5 rfl ?_
        refine r_isub (pc := 50) dX11_moveCells_50 ?_
        refine r_goto (pc := 51) (tgt := 56) dX11_moveCells_51 rfl ?_
        refine r_sub [0, 1, 2, 3, 4, 5] rfl ?_
        exact wX11_moveCells_b56 ih h
def fX11_moveCells (σ : Shp) (J : Nat → Nat → Int64) (R : Nat → Nat → Option Nat) (x0 : Option Nat) (x1 : Int32) (x2 : Option Nat) (x3 : Int32) (x4 : Int32) : Option ((Nat → Nat → Int64)) :=
  (x0 : Option Nat).bind fun a1 =>
  if kdx σ a1 = 11 then
  ((R a1 1) : Option Nat).bind fun a3 =>
  if kdx σ a3 = 21 then
  if (fX11_spanFits (Int32.ofNat (lnx σ a3)) x1 x4) = 0 then
    some J
  else
    (x2 : Option Nat).bind fun a5 =>
    if kdx σ a5 = 11 then
    ((R a5 1) : Option Nat).bind fun a7 =>
    if kdx σ a7 = 21 then
    if (fX11_spanFits (Int32.ofNat (lnx σ a7)) x3 x4) = 0 then
      some J
    else
      fX11_moveCells_l32 σ R FUx J x0 x1 x2 x3 x4 (0 : Int32)
    else none
    else none
  else none
  else none
theorem kX11_moveCells {G : Gx} {l : Launch} {σ : Shp} {I : Nat → Nat → Int32} {J : Nat → Nat → Int64} {D : Nat → Nat → UInt64} {R : Nat → Nat → Option Nat} {x0 : Option Nat} {x1 : Int32} {x2 : Option Nat} {x3 : Int32} {x4 : Int32} {J9 : Nat → Nat → Int64} (h : fX11_moveCells σ J R x0 x1 x2 x3 x4 = some J9) : Con G l yX11_moveCells cX11_moveCells 7 none 1 22 [vR x0, vI x1, vR x2, vI x3, vI x4] (σ, I, J, D, R) (σ, I, J9, D, R) none := by
  unfold fX11_moveCells at h
  refine Con.mk (by decide +kernel) rfl (Nat.le_of_ble_eq_true rfl) ?_
  show WX11_moveCells G l σ (σ, I, J9, D, R) none (σ, I, J, D, R) 0 _ []
  refine r_aload_n (pc := 0) dX11_moveCells_0 rfl 0 rfl ?_
  obtain ⟨a1, ha1, h⟩ := ob h
  refine r_ref0 ha1 ?_
  obtain ⟨g2, h⟩ := gd h
  obtain ⟨a3, ha3, h⟩ := ob h
  refine r_getS (pc := 1) dX11_moveCells_1 fgX11_134 rfl g2 ha3 ?_
  obtain ⟨g4, h⟩ := gd h
  refine r_alen (pc := 4) dX11_moveCells_4 g4 (by decide) ?_
  refine r_iload_n (pc := 5) dX11_moveCells_5 rfl 1 rfl ?_
  refine r_iload (pc := 6) dX11_moveCells_6 4 rfl ?_
  refine r_callS1 (pc := 8) (av := [vI (Int32.ofNat (lnx σ a3)), vI x1, vI x4]) (S := []) dX11_moveCells_8 (kX11_spanFits rfl) mkX11_179 mwX11_spanFits rfl ⟨Nat.le_of_ble_eq_true rfl, Nat.le_of_ble_eq_true rfl⟩ (Nat.le_of_ble_eq_true rfl) ⟨Nat.le_refl _, Nat.le_refl _⟩ (fun b => b) ?_
  refine r_if_eq (pc := 11) (tgt := 28) dX11_moveCells_11 rfl (fun c => ?_) (fun c => ?_)
  · have h := it h c
    cases h
    exact r_vret dX11_moveCells_28
  · have h := ie h c
    refine r_aload_n (pc := 14) dX11_moveCells_14 rfl 2 rfl ?_
    obtain ⟨a5, ha5, h⟩ := ob h
    refine r_ref0 ha5 ?_
    obtain ⟨g6, h⟩ := gd h
    obtain ⟨a7, ha7, h⟩ := ob h
    refine r_getS (pc := 15) dX11_moveCells_15 fgX11_134 rfl g6 ha7 ?_
    obtain ⟨g8, h⟩ := gd h
    refine r_alen (pc := 18) dX11_moveCells_18 g8 (by decide) ?_
    refine r_iload_n (pc := 19) dX11_moveCells_19 rfl 3 rfl ?_
    refine r_iload (pc := 20) dX11_moveCells_20 4 rfl ?_
    refine r_callS1 (pc := 22) (av := [vI (Int32.ofNat (lnx σ a7)), vI x3, vI x4]) (S := []) dX11_moveCells_22 (kX11_spanFits rfl) mkX11_179 mwX11_spanFits rfl ⟨Nat.le_of_ble_eq_true rfl, Nat.le_of_ble_eq_true rfl⟩ (Nat.le_of_ble_eq_true rfl) ⟨Nat.le_refl _, Nat.le_refl _⟩ (fun b => b) ?_
    refine r_ifne (pc := 25) (tgt := 29) dX11_moveCells_25 rfl (fun c => ?_) (fun c => ?_)
    · have h := ie h c
      refine r_iconst (pc := 29) dX11_moveCells_29 kc_iconst_0 ?_
      refine r_istore (pc := 30) (L' := [(5, vI (0 : Int32)), (0, vR x0), (1, vI x1), (2, vR x2), (3, vI x3), (4, vI x4)]) dX11_moveCells_30 (by decide) rfl ?_
      refine r_sub [1, 2, 3, 4, 5, 0] rfl ?_
      exact wX11_moveCells_l32 _ _ _ _ _ _ _ _ h
    · have h := it h c
      cases h
      exact r_vret dX11_moveCells_28
abbrev WX11_movePlaces (G : Gx) (l : Launch) (σ0 : Shp) (X1 : Stt) (rv : Option SV) : Stt → Nat → List (Nat × SV) → List SV → Prop := Wm G l yX11_movePlaces cX11_movePlaces 7 none (fun _ => True) (rmx 1 22 σ0 X1.1) σ0 (Qmx G σ0 X1 rv)
def fX11_movePlaces_b56 (q32 : (Nat → Nat → Option Nat) → (Option Nat) → (Int32) → (Option Nat) → (Int32) → (Int32) → (Int32) → (Option ((Nat → Nat → Option Nat)))) (σ : Shp) (R : Nat → Nat → Option Nat) (x0 : Option Nat) (x1 : Int32) (x2 : Option Nat) (x3 : Int32) (x4 : Int32) (x5 : Int32) (s0 : Int32) : Option ((Nat → Nat → Option Nat)) :=
  (x2 : Option Nat).bind fun a9 =>
  if kdx σ a9 = 11 then
  ((R a9 2) : Option Nat).bind fun a11 =>
  (x0 : Option Nat).bind fun a12 =>
  if kdx σ a12 = 11 then
  ((R a12 2) : Option Nat).bind fun a14 =>
  if kdx σ a14 = 26 then
  if ¬ ((x1 + s0) < 0 ∨ lnx σ a14 ≤ Int32.toNatClampNeg (x1 + s0)) then
  if kdx σ a11 = 26 then
  if ¬ ((x3 + s0) < 0 ∨ lnx σ a11 ≤ Int32.toNatClampNeg (x3 + s0)) then
  if okR σ 11 (R a14 (Int32.toNatClampNeg (x1 + s0))) = true then
  let R20 := u2 R a11 (Int32.toNatClampNeg (x3 + s0)) (R a14 (Int32.toNatClampNeg (x1 + s0)))
  let v21 := x5 + (1 : Int32)
  q32 R20 x0 x1 x2 x3 x4 v21
  else none
  else none
  else none
  else none
  else none
  else none
  else none
theorem wX11_movePlaces_b56 {G : Gx} {l : Launch} {σ : Shp} {I : Nat → Nat → Int32} {J : Nat → Nat → Int64} {D : Nat → Nat → UInt64} {R : Nat → Nat → Option Nat} {R9 : Nat → Nat → Option Nat} {q32 : (Nat → Nat → Option Nat) → (Option Nat) → (Int32) → (Option Nat) → (Int32) → (Int32) → (Int32) → (Option ((Nat → Nat → Option Nat)))} {x0 : Option Nat} {x1 : Int32} {x2 : Option Nat} {x3 : Int32} {x4 : Int32} {x5 : Int32} {s0 : Int32} (hq32 : ∀ (R : Nat → Nat → Option Nat) (x0 : Option Nat) (x1 : Int32) (x2 : Option Nat) (x3 : Int32) (x4 : Int32) (x5 : Int32), q32 R x0 x1 x2 x3 x4 x5 = some R9 → WX11_movePlaces G l σ (σ, I, J, D, R9) none (σ, I, J, D, R) 32 [(0, vR x0), (1, vI x1), (2, vR x2), (3, vI x3), (4, vI x4), (5, vI x5)] []) (h : fX11_movePlaces_b56 q32 σ R x0 x1 x2 x3 x4 x5 s0 = some R9) : WX11_movePlaces G l σ (σ, I, J, D, R9) none (σ, I, J, D, R) 56 [(0, vR x0), (1, vI x1), (2, vR x2), (3, vI x3), (4, vI x4), (5, vI x5)] [vI s0] := by
  unfold fX11_movePlaces_b56 at h
  refine r_istore (pc := 56) (L' := [(6, vI s0), (0, vR x0), (1, vI x1), (2, vR x2), (3, vI x3), (4, vI x4), (5, vI x5)]) dX11_movePlaces_56 (by decide) rfl ?_
  refine r_aload_n (pc := 58) dX11_movePlaces_58 rfl 3 rfl ?_
  obtain ⟨a9, ha9, h⟩ := ob h
  refine r_ref0 ha9 ?_
  obtain ⟨g10, h⟩ := gd h
  obtain ⟨a11, ha11, h⟩ := ob h
  refine r_getS (pc := 59) dX11_movePlaces_59 fgX11_101 rfl g10 ha11 ?_
  refine r_iload_n (pc := 62) dX11_movePlaces_62 rfl 4 rfl ?_
  refine r_iload (pc := 63) dX11_movePlaces_63 0 rfl ?_
  refine r_iadd (pc := 65) dX11_movePlaces_65 ?_
  refine r_aload_n (pc := 66) dX11_movePlaces_66 rfl 1 rfl ?_
  obtain ⟨a12, ha12, h⟩ := ob h
  refine r_ref0 ha12 ?_
  obtain ⟨g13, h⟩ := gd h
  obtain ⟨a14, ha14, h⟩ := ob h
  refine r_getS (pc := 67) dX11_movePlaces_67 fgX11_101 rfl g13 ha14 ?_
  refine r_iload_n (pc := 70) dX11_movePlaces_70 rfl 2 rfl ?_
  refine r_iload (pc := 71) dX11_movePlaces_71 0 rfl ?_
  refine r_iadd (pc := 73) dX11_movePlaces_73 ?_
  obtain ⟨g15, h⟩ := gd h
  obtain ⟨g16, h⟩ := gd h
  refine r_aaload (pc := 74) dX11_movePlaces_74 g15 (by decide) g16 ?_
  obtain ⟨g17, h⟩ := gd h
  obtain ⟨g18, h⟩ := gd h
  obtain ⟨g19, h⟩ := gd h
  refine r_aastore (c := 10) (pc := 75) dX11_movePlaces_75 g17 (by decide) g18 g19 ?_
  refine r_iinc (pc := 76) (v := (x5 + (1 : Int32))) (L' := [(5, vI (x5 + (1 : Int32))), (6, vI s0), (0, vR x0), (1, vI x1), (2, vR x2), (3, vI x3), (4, vI x4)]) dX11_movePlaces_76 6 rfl (kc_inc_1 _) (by decide) rfl ?_
  refine r_goto (pc := 79) (tgt := 32) dX11_movePlaces_79 rfl ?_
  refine r_sub [2, 3, 4, 5, 6, 0] rfl ?_
  exact hq32 _ _ _ _ _ _ _ h
def fX11_movePlaces_l32  (σ : Shp) : Nat → (Nat → Nat → Option Nat) → (Option Nat) → (Int32) → (Option Nat) → (Int32) → (Int32) → (Int32) → Option ((Nat → Nat → Option Nat))
  | 0, _, _, _, _, _, _, _ => none
  | n + 1, R, x0, x1, x2, x3, x4, x5 =>
    if x4 ≤ x5 then
      some R
    else
      if x3 ≤ x1 then
        fX11_movePlaces_b56 (fX11_movePlaces_l32 σ n) σ R x0 x1 x2 x3 x4 x5 x5
      else
        fX11_movePlaces_b56 (fX11_movePlaces_l32 σ n) σ R x0 x1 x2 x3 x4 x5 ((x4 - (1 : Int32)) - x5)
theorem wX11_movePlaces_l32 {G : Gx} {l : Launch} {σ : Shp} {I : Nat → Nat → Int32} {J : Nat → Nat → Int64} {D : Nat → Nat → UInt64} {R9 : Nat → Nat → Option Nat} : ∀ (n : Nat) (R : Nat → Nat → Option Nat) (x0 : Option Nat) (x1 : Int32) (x2 : Option Nat) (x3 : Int32) (x4 : Int32) (x5 : Int32), fX11_movePlaces_l32 σ n R x0 x1 x2 x3 x4 x5 = some R9 → WX11_movePlaces G l σ (σ, I, J, D, R9) none (σ, I, J, D, R) 32 [(0, vR x0), (1, vI x1), (2, vR x2), (3, vI x3), (4, vI x4), (5, vI x5)] [] := by
  intro n
  induction n with
  | zero =>
    intro R x0 x1 x2 x3 x4 x5 h
    have h : none = some _ := h
    cases h
  | succ n ih =>
    intro R x0 x1 x2 x3 x4 x5 h
    rw [fX11_movePlaces_l32] at h
    refine r_iload (pc := 32) dX11_movePlaces_32 5 rfl ?_
    refine r_iload (pc := 34) dX11_movePlaces_34 4 rfl ?_
    refine r_icmp_ge (pc := 36) (tgt := 82) dX11_movePlaces_36 rfl (fun c => ?_) (fun c => ?_)
    · have h := it h c
      cases h
      exact r_vret dX11_movePlaces_82
    · have h := ie h c
      refine r_iload_n (pc := 39) dX11_movePlaces_39 rfl 3 rfl ?_
      refine r_iload_n (pc := 40) dX11_movePlaces_40 rfl 1 rfl ?_
      refine r_icmp_le (pc := 41) (tgt := 54) dX11_movePlaces_41 rfl (fun c => ?_) (fun c => ?_)
      · have h := it h c
        refine r_iload (pc := 54) dX11_movePlaces_54 5 rfl ?_
        refine r_sub [0, 1, 2, 3, 4, 5] rfl ?_
        exact wX11_movePlaces_b56 ih h
      · have h := ie h c
        refine r_iload (pc := 44) dX11_movePlaces_44 4 rfl ?_
        refine r_iconst (pc := 46) dX11_movePlaces_46 kc_iconst_1 ?_
        refine r_isub (pc := 47) dX11_movePlaces_47 ?_
        refine r_iload (pc := 48) dX11_movePlaces_48 5 rfl ?_
        refine r_isub (pc := 50) dX11_movePlaces_50 ?_
        refine r_goto (pc := 51) (tgt := 56) dX11_movePlaces_51 rfl ?_
        refine r_sub [0, 1, 2, 3, 4, 5] rfl ?_
        exact wX11_movePlaces_b56 ih h
def fX11_movePlaces (σ : Shp) (R : Nat → Nat → Option Nat) (x0 : Option Nat) (x1 : Int32) (x2 : Option Nat) (x3 : Int32) (x4 : Int32) : Option ((Nat → Nat → Option Nat)) :=
  (x0 : Option Nat).bind fun a1 =>
  if kdx σ a1 = 11 then
  ((R a1 2) : Option Nat).bind fun a3 =>
  if kdx σ a3 = 26 then
  if (fX11_spanFits (Int32.ofNat (lnx σ a3)) x1 x4) = 0 then
    some R
  else
    (x2 : Option Nat).bind fun a5 =>
    if kdx σ a5 = 11 then
    ((R a5 2) : Option Nat).bind fun a7 =>
    if kdx σ a7 = 26 then
    if (fX11_spanFits (Int32.ofNat (lnx σ a7)) x3 x4) = 0 then
      some R
    else
      fX11_movePlaces_l32 σ FUx R x0 x1 x2 x3 x4 (0 : Int32)
    else none
    else none
  else none
  else none
theorem kX11_movePlaces {G : Gx} {l : Launch} {σ : Shp} {I : Nat → Nat → Int32} {J : Nat → Nat → Int64} {D : Nat → Nat → UInt64} {R : Nat → Nat → Option Nat} {x0 : Option Nat} {x1 : Int32} {x2 : Option Nat} {x3 : Int32} {x4 : Int32} {R9 : Nat → Nat → Option Nat} (h : fX11_movePlaces σ R x0 x1 x2 x3 x4 = some R9) : Con G l yX11_movePlaces cX11_movePlaces 7 none 1 22 [vR x0, vI x1, vR x2, vI x3, vI x4] (σ, I, J, D, R) (σ, I, J, D, R9) none := by
  unfold fX11_movePlaces at h
  refine Con.mk (by decide +kernel) rfl (Nat.le_of_ble_eq_true rfl) ?_
  show WX11_movePlaces G l σ (σ, I, J, D, R9) none (σ, I, J, D, R) 0 _ []
  refine r_aload_n (pc := 0) dX11_movePlaces_0 rfl 0 rfl ?_
  obtain ⟨a1, ha1, h⟩ := ob h
  refine r_ref0 ha1 ?_
  obtain ⟨g2, h⟩ := gd h
  obtain ⟨a3, ha3, h⟩ := ob h
  refine r_getS (pc := 1) dX11_movePlaces_1 fgX11_101 rfl g2 ha3 ?_
  obtain ⟨g4, h⟩ := gd h
  refine r_alen (pc := 4) dX11_movePlaces_4 g4 (by decide) ?_
  refine r_iload_n (pc := 5) dX11_movePlaces_5 rfl 1 rfl ?_
  refine r_iload (pc := 6) dX11_movePlaces_6 4 rfl ?_
  refine r_callS1 (pc := 8) (av := [vI (Int32.ofNat (lnx σ a3)), vI x1, vI x4]) (S := []) dX11_movePlaces_8 (kX11_spanFits rfl) mkX11_179 mwX11_spanFits rfl ⟨Nat.le_of_ble_eq_true rfl, Nat.le_of_ble_eq_true rfl⟩ (Nat.le_of_ble_eq_true rfl) ⟨Nat.le_refl _, Nat.le_refl _⟩ (fun b => b) ?_
  refine r_if_eq (pc := 11) (tgt := 28) dX11_movePlaces_11 rfl (fun c => ?_) (fun c => ?_)
  · have h := it h c
    cases h
    exact r_vret dX11_movePlaces_28
  · have h := ie h c
    refine r_aload_n (pc := 14) dX11_movePlaces_14 rfl 2 rfl ?_
    obtain ⟨a5, ha5, h⟩ := ob h
    refine r_ref0 ha5 ?_
    obtain ⟨g6, h⟩ := gd h
    obtain ⟨a7, ha7, h⟩ := ob h
    refine r_getS (pc := 15) dX11_movePlaces_15 fgX11_101 rfl g6 ha7 ?_
    obtain ⟨g8, h⟩ := gd h
    refine r_alen (pc := 18) dX11_movePlaces_18 g8 (by decide) ?_
    refine r_iload_n (pc := 19) dX11_movePlaces_19 rfl 3 rfl ?_
    refine r_iload (pc := 20) dX11_movePlaces_20 4 rfl ?_
    refine r_callS1 (pc := 22) (av := [vI (Int32.ofNat (lnx σ a7)), vI x3, vI x4]) (S := []) dX11_movePlaces_22 (kX11_spanFits rfl) mkX11_179 mwX11_spanFits rfl ⟨Nat.le_of_ble_eq_true rfl, Nat.le_of_ble_eq_true rfl⟩ (Nat.le_of_ble_eq_true rfl) ⟨Nat.le_refl _, Nat.le_refl _⟩ (fun b => b) ?_
    refine r_ifne (pc := 25) (tgt := 29) dX11_movePlaces_25 rfl (fun c => ?_) (fun c => ?_)
    · have h := ie h c
      refine r_iconst (pc := 29) dX11_movePlaces_29 kc_iconst_0 ?_
      refine r_istore (pc := 30) (L' := [(5, vI (0 : Int32)), (0, vR x0), (1, vI x1), (2, vR x2), (3, vI x3), (4, vI x4)]) dX11_movePlaces_30 (by decide) rfl ?_
      refine r_sub [1, 2, 3, 4, 5, 0] rfl ?_
      exact wX11_movePlaces_l32 _ _ _ _ _ _ _ _ h
    · have h := it h c
      cases h
      exact r_vret dX11_movePlaces_28
abbrev WX11_shiftable (G : Gx) (l : Launch) (σ0 : Shp) (X1 : Stt) (rv : Option SV) : Stt → Nat → List (Nat × SV) → List SV → Prop := Wm G l yX11_shiftable cX11_shiftable 2 (some .boolean) (fun _ => True) (rmx 1 20 σ0 X1.1) σ0 (Qmx G σ0 X1 rv)
def fX11_shiftable (σ : Shp) (I : Nat → Nat → Int32) (x0 : Option Nat) (x1 : Option Nat) : Option ((Int32)) :=
  (fX11_isRow σ I x0).bind fun r1 =>
  if r1 = 0 then
    (fX11_isRow σ I x1).bind fun r7 =>
    if r7 = 0 then
      (x0 : Option Nat).bind fun a9 =>
      if kdx σ a9 = 11 then
      if (fX11_isPlacesForm (I a9 0)) = 0 then
        some (0 : Int32)
      else
        (x1 : Option Nat).bind fun a11 =>
        if kdx σ a11 = 11 then
        if (fX11_isPlacesForm (I a11 0)) = 0 then
          some (0 : Int32)
        else
          some (1 : Int32)
        else none
      else none
    else
      (x0 : Option Nat).bind fun a13 =>
      if kdx σ a13 = 11 then
      (x1 : Option Nat).bind fun a15 =>
      if kdx σ a15 = 11 then
      if (I a13 0) = (I a15 0) then
        some (1 : Int32)
      else
        some (0 : Int32)
      else none
      else none
  else
    (x0 : Option Nat).bind fun a3 =>
    if kdx σ a3 = 11 then
    (x1 : Option Nat).bind fun a5 =>
    if kdx σ a5 = 11 then
    if (I a3 0) = (I a5 0) then
      some (1 : Int32)
    else
      some (0 : Int32)
    else none
    else none
theorem kX11_shiftable {G : Gx} {l : Launch} {σ : Shp} {I : Nat → Nat → Int32} {J : Nat → Nat → Int64} {D : Nat → Nat → UInt64} {R : Nat → Nat → Option Nat} {x0 : Option Nat} {x1 : Option Nat} {r9 : Int32} (h : fX11_shiftable σ I x0 x1 = some r9) : Con G l yX11_shiftable cX11_shiftable 2 (some .boolean) 1 20 [vR x0, vR x1] (σ, I, J, D, R) (σ, I, J, D, R) (some (vI r9)) := by
  unfold fX11_shiftable at h
  refine Con.mk (by decide +kernel) rfl (Nat.le_of_ble_eq_true rfl) ?_
  show WX11_shiftable G l σ (σ, I, J, D, R) (some (vI r9)) (σ, I, J, D, R) 0 _ []
  refine r_aload_n (pc := 0) dX11_shiftable_0 rfl 0 rfl ?_
  obtain ⟨r1, hc2, h⟩ := ob h
  refine r_callS1 (pc := 1) (av := [vR x0]) (S := []) dX11_shiftable_1 (kX11_isRow hc2) mkX11_183 mwX11_isRow rfl ⟨Nat.le_of_ble_eq_true rfl, Nat.le_of_ble_eq_true rfl⟩ (Nat.le_of_ble_eq_true rfl) ⟨Nat.le_refl _, Nat.le_refl _⟩ (fun b => b) ?_
  refine r_ifne (pc := 4) (tgt := 14) dX11_shiftable_4 rfl (fun c => ?_) (fun c => ?_)
  · have h := ie h c
    refine r_aload_n (pc := 14) dX11_shiftable_14 rfl 0 rfl ?_
    obtain ⟨a3, ha3, h⟩ := ob h
    refine r_ref0 ha3 ?_
    obtain ⟨g4, h⟩ := gd h
    refine r_getI (pc := 15) dX11_shiftable_15 fgX11_113 rfl g4 ?_
    refine r_aload_n (pc := 18) dX11_shiftable_18 rfl 1 rfl ?_
    obtain ⟨a5, ha5, h⟩ := ob h
    refine r_ref0 ha5 ?_
    obtain ⟨g6, h⟩ := gd h
    refine r_getI (pc := 19) dX11_shiftable_19 fgX11_113 rfl g6 ?_
    refine r_icmp_ne (pc := 22) (tgt := 29) dX11_shiftable_22 rfl (fun c => ?_) (fun c => ?_)
    · have h := ie h c
      refine r_iconst (pc := 29) dX11_shiftable_29 kc_iconst_0 ?_
      cases h
      exact r_zret dX11_shiftable_30 (Or.inl rfl)
    · have h := it h c
      refine r_iconst (pc := 25) dX11_shiftable_25 kc_iconst_1 ?_
      refine r_goto (pc := 26) (tgt := 30) dX11_shiftable_26 rfl ?_
      cases h
      exact r_zret dX11_shiftable_30 (Or.inr rfl)
  · have h := it h c
    refine r_aload_n (pc := 7) dX11_shiftable_7 rfl 1 rfl ?_
    obtain ⟨r7, hc8, h⟩ := ob h
    refine r_callS1 (pc := 8) (av := [vR x1]) (S := []) dX11_shiftable_8 (kX11_isRow hc8) mkX11_183 mwX11_isRow rfl ⟨Nat.le_of_ble_eq_true rfl, Nat.le_of_ble_eq_true rfl⟩ (Nat.le_of_ble_eq_true rfl) ⟨Nat.le_refl _, Nat.le_refl _⟩ (fun b => b) ?_
    refine r_if_eq (pc := 11) (tgt := 31) dX11_shiftable_11 rfl (fun c => ?_) (fun c => ?_)
    · have h := it h c
      refine r_aload_n (pc := 31) dX11_shiftable_31 rfl 0 rfl ?_
      obtain ⟨a9, ha9, h⟩ := ob h
      refine r_ref0 ha9 ?_
      obtain ⟨g10, h⟩ := gd h
      refine r_getI (pc := 32) dX11_shiftable_32 fgX11_113 rfl g10 ?_
      refine r_callS1 (pc := 35) (av := [vI (I a9 0)]) (S := []) dX11_shiftable_35 (kX11_isPlacesForm rfl) mkX11_206 mwX11_isPlacesForm rfl ⟨Nat.le_of_ble_eq_true rfl, Nat.le_of_ble_eq_true rfl⟩ (Nat.le_of_ble_eq_true rfl) ⟨Nat.le_refl _, Nat.le_refl _⟩ (fun b => b) ?_
      refine r_if_eq (pc := 38) (tgt := 55) dX11_shiftable_38 rfl (fun c => ?_) (fun c => ?_)
      · have h := it h c
        refine r_iconst (pc := 55) dX11_shiftable_55 kc_iconst_0 ?_
        cases h
        exact r_zret dX11_shiftable_56 (Or.inl rfl)
      · have h := ie h c
        refine r_aload_n (pc := 41) dX11_shiftable_41 rfl 1 rfl ?_
        obtain ⟨a11, ha11, h⟩ := ob h
        refine r_ref0 ha11 ?_
        obtain ⟨g12, h⟩ := gd h
        refine r_getI (pc := 42) dX11_shiftable_42 fgX11_113 rfl g12 ?_
        refine r_callS1 (pc := 45) (av := [vI (I a11 0)]) (S := []) dX11_shiftable_45 (kX11_isPlacesForm rfl) mkX11_206 mwX11_isPlacesForm rfl ⟨Nat.le_of_ble_eq_true rfl, Nat.le_of_ble_eq_true rfl⟩ (Nat.le_of_ble_eq_true rfl) ⟨Nat.le_refl _, Nat.le_refl _⟩ (fun b => b) ?_
        refine r_if_eq (pc := 48) (tgt := 55) dX11_shiftable_48 rfl (fun c => ?_) (fun c => ?_)
        · have h := it h c
          refine r_iconst (pc := 55) dX11_shiftable_55 kc_iconst_0 ?_
          cases h
          exact r_zret dX11_shiftable_56 (Or.inl rfl)
        · have h := ie h c
          refine r_iconst (pc := 51) dX11_shiftable_51 kc_iconst_1 ?_
          refine r_goto (pc := 52) (tgt := 56) dX11_shiftable_52 rfl ?_
          cases h
          exact r_zret dX11_shiftable_56 (Or.inr rfl)
    · have h := ie h c
      refine r_aload_n (pc := 14) dX11_shiftable_14 rfl 0 rfl ?_
      obtain ⟨a13, ha13, h⟩ := ob h
      refine r_ref0 ha13 ?_
      obtain ⟨g14, h⟩ := gd h
      refine r_getI (pc := 15) dX11_shiftable_15 fgX11_113 rfl g14 ?_
      refine r_aload_n (pc := 18) dX11_shiftable_18 rfl 1 rfl ?_
      obtain ⟨a15, ha15, h⟩ := ob h
      refine r_ref0 ha15 ?_
      obtain ⟨g16, h⟩ := gd h
      refine r_getI (pc := 19) dX11_shiftable_19 fgX11_113 rfl g16 ?_
      refine r_icmp_ne (pc := 22) (tgt := 29) dX11_shiftable_22 rfl (fun c => ?_) (fun c => ?_)
      · have h := ie h c
        refine r_iconst (pc := 29) dX11_shiftable_29 kc_iconst_0 ?_
        cases h
        exact r_zret dX11_shiftable_30 (Or.inl rfl)
      · have h := it h c
        refine r_iconst (pc := 25) dX11_shiftable_25 kc_iconst_1 ?_
        refine r_goto (pc := 26) (tgt := 30) dX11_shiftable_26 rfl ?_
        cases h
        exact r_zret dX11_shiftable_30 (Or.inr rfl)
abbrev WX11_shift (G : Gx) (l : Launch) (σ0 : Shp) (X1 : Stt) (rv : Option SV) : Stt → Nat → List (Nat × SV) → List SV → Prop := Wm G l yX11_shift cX11_shift 8 (some .int) (fun _ => True) (rmx 4 86 σ0 X1.1) σ0 (Qmx G σ0 X1 rv)
def fX11_shift (σ : Shp) (I : Nat → Nat → Int32) (J : Nat → Nat → Int64) (R : Nat → Nat → Option Nat) (t : Nat) (x1 : Int32) (x2 : Int32) (x3 : Int32) (x4 : Int32) (x5 : Int32) : Option ((Nat → Nat → Int32) × (Nat → Nat → Int64) × (Nat → Nat → Option Nat) × (Int32)) :=
  if (fX11_isBin x1) = 0 then
    some (I, J, R, (-2 : Int32))
  else
    if (fX11_isBin x3) = 0 then
      some (I, J, R, (-2 : Int32))
    else
      if kdx σ t = 12 then
      let I2 := u2 I t 17 (0 : Int32)
      ((R t 1) : Option Nat).bind fun a3 =>
      if kdx σ a3 = 26 then
      if ¬ (x1 < 0 ∨ lnx σ a3 ≤ Int32.toNatClampNeg x1) then
      let v6 := (R a3 (Int32.toNatClampNeg x1))
      if ¬ (x3 < 0 ∨ lnx σ a3 ≤ Int32.toNatClampNeg x3) then
      let v8 := (R a3 (Int32.toNatClampNeg x3))
      onl v6
        (
          (fX11_fail σ I2 t (1 : Int32)).bind fun (I10, r11) =>
          some (I10, J, R, r11))
        (fun a9 =>
          onl v8
            (
              (fX11_fail σ I2 t (1 : Int32)).bind fun (I14, r15) =>
              some (I14, J, R, r15))
            (fun a13 =>
              (fX11_shiftable σ I2 (some a9) (some a13)).bind fun r17 =>
              if r17 = 0 then
                (fX11_fail σ I2 t (5 : Int32)).bind fun (I44, r45) =>
                some (I44, J, R, r45)
              else
                if kdx σ a9 = 11 then
                (fX10_length σ I2 R a9).bind fun r20 =>
                if (fX11_spanFits r20 x2 x5) = 0 then
                  (fX11_fail σ I2 t (2 : Int32)).bind fun (I22, r23) =>
                  some (I22, J, R, r23)
                else
                  if kdx σ a13 = 11 then
                  (fX10_length σ I2 R a13).bind fun r26 =>
                  if (fX11_spanFits r26 x4 x5) = 0 then
                    (fX11_fail σ I2 t (2 : Int32)).bind fun (I41, r42) =>
                    some (I41, J, R, r42)
                  else
                    (fX11_isRow σ I2 (some a9)).bind fun r28 =>
                    if r28 = 0 then
                      (fX11_leadTaken σ I2 R (some a9) x2 (some a13) x5).bind fun r30 =>
                      let I32 := u2 I2 t 17 r30
                      (fX11_movePlaces σ R (some a9) x2 (some a13) x4 (I32 t 17)).bind fun R33 =>
                      if (I32 t 17) = x5 then
                        some (I32, J, R33, x5)
                      else
                        (fX11_fail σ I32 t (5 : Int32)).bind fun (I35, r36) =>
                        some (I35, J, R33, r36)
                    else
                      (fX11_moveCells σ J R (some a9) x2 (some a13) x4 x5).bind fun J38 =>
                      let I40 := u2 I2 t 17 x5
                      some (I40, J38, R, x5)
                  else none
                else none))
      else none
      else none
      else none
      else none
theorem kX11_shift {G : Gx} {l : Launch} {σ : Shp} {I : Nat → Nat → Int32} {J : Nat → Nat → Int64} {D : Nat → Nat → UInt64} {R : Nat → Nat → Option Nat} {t : Nat} {x1 : Int32} {x2 : Int32} {x3 : Int32} {x4 : Int32} {x5 : Int32} {I9 : Nat → Nat → Int32} {J9 : Nat → Nat → Int64} {R9 : Nat → Nat → Option Nat} {r9 : Int32} (h : fX11_shift σ I J R t x1 x2 x3 x4 x5 = some (I9, J9, R9, r9)) : Con G l yX11_shift cX11_shift 8 (some .int) 4 86 [vR (some t), vI x1, vI x2, vI x3, vI x4, vI x5] (σ, I, J, D, R) (σ, I9, J9, D, R9) (some (vI r9)) := by
  unfold fX11_shift at h
  refine Con.mk (by decide +kernel) rfl (Nat.le_of_ble_eq_true rfl) ?_
  show WX11_shift G l σ (σ, I9, J9, D, R9) (some (vI r9)) (σ, I, J, D, R) 0 _ []
  refine r_iload_n (pc := 0) dX11_shift_0 rfl 1 rfl ?_
  refine r_callS1 (pc := 1) (av := [vI x1]) (S := []) dX11_shift_1 (kX11_isBin rfl) mkX11_76 mwX11_isBin rfl ⟨Nat.le_of_ble_eq_true rfl, Nat.le_of_ble_eq_true rfl⟩ (Nat.le_of_ble_eq_true rfl) ⟨Nat.le_refl _, Nat.le_refl _⟩ (fun b => b) ?_
  refine r_if_eq (pc := 4) (tgt := 14) dX11_shift_4 rfl (fun c => ?_) (fun c => ?_)
  · have h := it h c
    refine r_bipush (pc := 14) dX11_shift_14 kc_bipush_m2 ?_
    cases h
    exact r_iret dX11_shift_16
  · have h := ie h c
    refine r_iload_n (pc := 7) dX11_shift_7 rfl 3 rfl ?_
    refine r_callS1 (pc := 8) (av := [vI x3]) (S := []) dX11_shift_8 (kX11_isBin rfl) mkX11_76 mwX11_isBin rfl ⟨Nat.le_of_ble_eq_true rfl, Nat.le_of_ble_eq_true rfl⟩ (Nat.le_of_ble_eq_true rfl) ⟨Nat.le_refl _, Nat.le_refl _⟩ (fun b => b) ?_
    refine r_ifne (pc := 11) (tgt := 17) dX11_shift_11 rfl (fun c => ?_) (fun c => ?_)
    · have h := ie h c
      refine r_aload_n (pc := 17) dX11_shift_17 rfl 0 rfl ?_
      refine r_iconst (pc := 18) dX11_shift_18 kc_iconst_0 ?_
      obtain ⟨g1, h⟩ := gd h
      refine r_putI (pc := 19) dX11_shift_19 fwX11_168 rfl g1 ?_
      refine r_aload_n (pc := 22) dX11_shift_22 rfl 0 rfl ?_
      obtain ⟨a3, ha3, h⟩ := ob h
      refine r_getS (pc := 23) dX11_shift_23 fgX11_20 rfl g1 ha3 ?_
      refine r_iload_n (pc := 26) dX11_shift_26 rfl 1 rfl ?_
      obtain ⟨g4, h⟩ := gd h
      obtain ⟨g5, h⟩ := gd h
      refine r_aaload (pc := 27) dX11_shift_27 g4 (by decide) g5 ?_
      refine r_astore (pc := 28) (L' := [(6, vR (R a3 (Int32.toNatClampNeg x1))), (0, vR (some t)), (1, vI x1), (2, vI x2), (3, vI x3), (4, vI x4), (5, vI x5)]) dX11_shift_28 (by decide) rfl ?_
      refine r_aload_n (pc := 30) dX11_shift_30 rfl 1 rfl ?_
      refine r_getS (pc := 31) dX11_shift_31 fgX11_20 rfl g1 ha3 ?_
      refine r_iload_n (pc := 34) dX11_shift_34 rfl 4 rfl ?_
      obtain ⟨g7, h⟩ := gd h
      refine r_aaload (pc := 35) dX11_shift_35 g4 (by decide) g7 ?_
      refine r_astore (pc := 36) (L' := [(7, vR (R a3 (Int32.toNatClampNeg x3))), (6, vR (R a3 (Int32.toNatClampNeg x1))), (0, vR (some t)), (1, vI x1), (2, vI x2), (3, vI x3), (4, vI x4), (5, vI x5)]) dX11_shift_36 (by decide) rfl ?_
      refine r_aload (pc := 38) dX11_shift_38 1 rfl ?_
      rcases onl_c h with ⟨ea9, h⟩ | ⟨a9, ha9, h⟩
      · refine r_ref0n ea9 ?_
        refine r_ifnull_n (pc := 40) (tgt := 48) dX11_shift_40 rfl ?_
        refine r_aload_n (pc := 48) dX11_shift_48 rfl 2 rfl ?_
        refine r_iconst (pc := 49) dX11_shift_49 kc_iconst_1 ?_
        obtain ⟨⟨I10, r11⟩, hc12, h⟩ := ob h
        refine r_callV1 (pc := 50) (av := [vI (1 : Int32)]) (S := []) dX11_shift_50 (kX11_fail hc12) g1 rfl mkX11_87 mwX11_fail rfl ⟨Nat.le_of_ble_eq_true rfl, Nat.le_of_ble_eq_true rfl⟩ (Nat.le_of_ble_eq_true rfl) ⟨Nat.le_refl _, Nat.le_refl _⟩ (fun b => b) ?_
        cases h
        exact r_iret dX11_shift_53
      · refine r_ref0 ha9 ?_
        refine r_ifnull_s (pc := 40) dX11_shift_40 ?_
        refine r_aload (pc := 43) dX11_shift_43 0 rfl ?_
        rcases onl_c h with ⟨ea13, h⟩ | ⟨a13, ha13, h⟩
        · refine r_ref0n ea13 ?_
          refine r_ifnonnull_n (pc := 45) dX11_shift_45 ?_
          refine r_aload_n (pc := 48) dX11_shift_48 rfl 2 rfl ?_
          refine r_iconst (pc := 49) dX11_shift_49 kc_iconst_1 ?_
          obtain ⟨⟨I14, r15⟩, hc16, h⟩ := ob h
          refine r_callV1 (pc := 50) (av := [vI (1 : Int32)]) (S := []) dX11_shift_50 (kX11_fail hc16) g1 rfl mkX11_87 mwX11_fail rfl ⟨Nat.le_of_ble_eq_true rfl, Nat.le_of_ble_eq_true rfl⟩ (Nat.le_of_ble_eq_true rfl) ⟨Nat.le_refl _, Nat.le_refl _⟩ (fun b => b) ?_
          cases h
          exact r_iret dX11_shift_53
        · refine r_ref0 ha13 ?_
          refine r_ifnonnull_s (pc := 45) (tgt := 54) dX11_shift_45 rfl ?_
          refine r_aload (pc := 54) dX11_shift_54 1 rfl ?_
          refine r_ref0 ha9 ?_
          refine r_aload (pc := 56) dX11_shift_56 0 rfl ?_
          refine r_ref0 ha13 ?_
          obtain ⟨r17, hc18, h⟩ := ob h
          refine r_callS1 (pc := 58) (av := [vR (some a9), vR (some a13)]) (S := []) dX11_shift_58 (kX11_shiftable hc18) mkX11_171 mwX11_shiftable rfl ⟨Nat.le_of_ble_eq_true rfl, Nat.le_of_ble_eq_true rfl⟩ (Nat.le_of_ble_eq_true rfl) ⟨Nat.le_refl _, Nat.le_refl _⟩ (fun b => b) ?_
          refine r_ifne (pc := 61) (tgt := 70) dX11_shift_61 rfl (fun c => ?_) (fun c => ?_)
          · have h := ie h c
            refine r_aload (pc := 70) dX11_shift_70 1 rfl ?_
            refine r_ref0 ha9 ?_
            obtain ⟨g19, h⟩ := gd h
            obtain ⟨r20, hc21, h⟩ := ob h
            refine r_callV1 (pc := 72) (av := []) (S := []) dX11_shift_72 (kX10_length hc21) g19 rfl mkX11_175 mwX10_length rfl ⟨Nat.le_of_ble_eq_true rfl, Nat.le_of_ble_eq_true rfl⟩ (Nat.le_of_ble_eq_true rfl) ⟨Nat.le_refl _, Nat.le_refl _⟩ (fun b => b) ?_
            refine r_iload_n (pc := 75) dX11_shift_75 rfl 4 rfl ?_
            refine r_iload (pc := 76) dX11_shift_76 7 rfl ?_
            refine r_callS1 (pc := 78) (av := [vI r20, vI x2, vI x5]) (S := []) dX11_shift_78 (kX11_spanFits rfl) mkX11_179 mwX11_spanFits rfl ⟨Nat.le_of_ble_eq_true rfl, Nat.le_of_ble_eq_true rfl⟩ (Nat.le_of_ble_eq_true rfl) ⟨Nat.le_refl _, Nat.le_refl _⟩ (fun b => b) ?_
            refine r_if_eq (pc := 81) (tgt := 99) dX11_shift_81 rfl (fun c => ?_) (fun c => ?_)
            · have h := it h c
              refine r_aload_n (pc := 99) dX11_shift_99 rfl 2 rfl ?_
              refine r_iconst (pc := 100) dX11_shift_100 kc_iconst_2 ?_
              obtain ⟨⟨I22, r23⟩, hc24, h⟩ := ob h
              refine r_callV1 (pc := 101) (av := [vI (2 : Int32)]) (S := []) dX11_shift_101 (kX11_fail hc24) g1 rfl mkX11_87 mwX11_fail rfl ⟨Nat.le_of_ble_eq_true rfl, Nat.le_of_ble_eq_true rfl⟩ (Nat.le_of_ble_eq_true rfl) ⟨Nat.le_refl _, Nat.le_refl _⟩ (fun b => b) ?_
              cases h
              exact r_iret dX11_shift_104
            · have h := ie h c
              refine r_aload (pc := 84) dX11_shift_84 0 rfl ?_
              refine r_ref0 ha13 ?_
              obtain ⟨g25, h⟩ := gd h
              obtain ⟨r26, hc27, h⟩ := ob h
              refine r_callV1 (pc := 86) (av := []) (S := []) dX11_shift_86 (kX10_length hc27) g25 rfl mkX11_175 mwX10_length rfl ⟨Nat.le_of_ble_eq_true rfl, Nat.le_of_ble_eq_true rfl⟩ (Nat.le_of_ble_eq_true rfl) ⟨Nat.le_refl _, Nat.le_refl _⟩ (fun b => b) ?_
              refine r_iload (pc := 89) dX11_shift_89 6 rfl ?_
              refine r_iload (pc := 91) dX11_shift_91 7 rfl ?_
              refine r_callS1 (pc := 93) (av := [vI r26, vI x4, vI x5]) (S := []) dX11_shift_93 (kX11_spanFits rfl) mkX11_179 mwX11_spanFits rfl ⟨Nat.le_of_ble_eq_true rfl, Nat.le_of_ble_eq_true rfl⟩ (Nat.le_of_ble_eq_true rfl) ⟨Nat.le_refl _, Nat.le_refl _⟩ (fun b => b) ?_
              refine r_ifne (pc := 96) (tgt := 105) dX11_shift_96 rfl (fun c => ?_) (fun c => ?_)
              · have h := ie h c
                refine r_aload (pc := 105) dX11_shift_105 1 rfl ?_
                refine r_ref0 ha9 ?_
                obtain ⟨r28, hc29, h⟩ := ob h
                refine r_callS1 (pc := 107) (av := [vR (some a9)]) (S := []) dX11_shift_107 (kX11_isRow hc29) mkX11_183 mwX11_isRow rfl ⟨Nat.le_of_ble_eq_true rfl, Nat.le_of_ble_eq_true rfl⟩ (Nat.le_of_ble_eq_true rfl) ⟨Nat.le_refl _, Nat.le_refl _⟩ (fun b => b) ?_
                refine r_if_eq (pc := 110) (tgt := 134) dX11_shift_110 rfl (fun c => ?_) (fun c => ?_)
                · have h := it h c
                  refine r_aload_n (pc := 134) dX11_shift_134 rfl 2 rfl ?_
                  refine r_aload (pc := 135) dX11_shift_135 1 rfl ?_
                  refine r_ref0 ha9 ?_
                  refine r_iload_n (pc := 137) dX11_shift_137 rfl 4 rfl ?_
                  refine r_aload (pc := 138) dX11_shift_138 0 rfl ?_
                  refine r_ref0 ha13 ?_
                  refine r_iload (pc := 140) dX11_shift_140 7 rfl ?_
                  obtain ⟨r30, hc31, h⟩ := ob h
                  refine r_callS1 (pc := 142) (av := [vR (some a9), vI x2, vR (some a13), vI x5]) (S := [vR (some t)]) dX11_shift_142 (kX11_leadTaken hc31) mkX11_191 mwX11_leadTaken rfl ⟨Nat.le_of_ble_eq_true rfl, Nat.le_of_ble_eq_true rfl⟩ (Nat.le_of_ble_eq_true rfl) ⟨Nat.le_refl _, Nat.le_refl _⟩ (fun b => b) ?_
                  refine r_putI (pc := 145) dX11_shift_145 fwX11_168 rfl g1 ?_
                  refine r_aload (pc := 148) dX11_shift_148 1 rfl ?_
                  refine r_ref0 ha9 ?_
                  refine r_iload_n (pc := 150) dX11_shift_150 rfl 4 rfl ?_
                  refine r_aload (pc := 151) dX11_shift_151 0 rfl ?_
                  refine r_ref0 ha13 ?_
                  refine r_iload (pc := 153) dX11_shift_153 6 rfl ?_
                  refine r_aload_n (pc := 155) dX11_shift_155 rfl 2 rfl ?_
                  refine r_getI (pc := 156) dX11_shift_156 fgX11_168 rfl g1 ?_
                  obtain ⟨R33, hc34, h⟩ := ob h
                  refine r_callS0 (pc := 159) (av := [vR (some a9), vI x2, vR (some a13), vI x4, vI ((u2 (u2 I t 17 (0 : Int32)) t 17 r30) t 17)]) (S := []) dX11_shift_159 (kX11_movePlaces hc34) mkX11_195 mwX11_movePlaces rfl ⟨Nat.le_of_ble_eq_true rfl, Nat.le_of_ble_eq_true rfl⟩ (Nat.le_of_ble_eq_true rfl) ⟨Nat.le_refl _, Nat.le_refl _⟩ (fun b => b) ?_
                  refine r_aload_n (pc := 162) dX11_shift_162 rfl 2 rfl ?_
                  refine r_getI (pc := 163) dX11_shift_163 fgX11_168 rfl g1 ?_
                  refine r_iload (pc := 166) dX11_shift_166 7 rfl ?_
                  refine r_icmp_ne (pc := 168) (tgt := 176) dX11_shift_168 rfl (fun c => ?_) (fun c => ?_)
                  · have h := ie h c
                    refine r_aload_n (pc := 176) dX11_shift_176 rfl 2 rfl ?_
                    refine r_iconst (pc := 177) dX11_shift_177 kc_iconst_5 ?_
                    obtain ⟨⟨I35, r36⟩, hc37, h⟩ := ob h
                    refine r_callV1 (pc := 178) (av := [vI (5 : Int32)]) (S := []) dX11_shift_178 (kX11_fail hc37) g1 rfl mkX11_87 mwX11_fail rfl ⟨Nat.le_of_ble_eq_true rfl, Nat.le_of_ble_eq_true rfl⟩ (Nat.le_of_ble_eq_true rfl) ⟨Nat.le_refl _, Nat.le_refl _⟩ (fun b => b) ?_
                    cases h
                    exact r_iret dX11_shift_181
                  · have h := it h c
                    refine r_iload (pc := 171) dX11_shift_171 7 rfl ?_
                    refine r_goto (pc := 173) (tgt := 181) dX11_shift_173 rfl ?_
                    cases h
                    exact r_iret dX11_shift_181
                · have h := ie h c
                  refine r_aload (pc := 113) dX11_shift_113 1 rfl ?_
                  refine r_ref0 ha9 ?_
                  refine r_iload_n (pc := 115) dX11_shift_115 rfl 4 rfl ?_
                  refine r_aload (pc := 116) dX11_shift_116 0 rfl ?_
                  refine r_ref0 ha13 ?_
                  refine r_iload (pc := 118) dX11_shift_118 6 rfl ?_
                  refine r_iload (pc := 120) dX11_shift_120 7 rfl ?_
                  obtain ⟨J38, hc39, h⟩ := ob h
                  refine r_callS0 (pc := 122) (av := [vR (some a9), vI x2, vR (some a13), vI x4, vI x5]) (S := []) dX11_shift_122 (kX11_moveCells hc39) mkX11_187 mwX11_moveCells rfl ⟨Nat.le_of_ble_eq_true rfl, Nat.le_of_ble_eq_true rfl⟩ (Nat.le_of_ble_eq_true rfl) ⟨Nat.le_refl _, Nat.le_refl _⟩ (fun b => b) ?_
                  refine r_aload_n (pc := 125) dX11_shift_125 rfl 2 rfl ?_
                  refine r_iload (pc := 126) dX11_shift_126 7 rfl ?_
                  refine r_putI (pc := 128) dX11_shift_128 fwX11_168 rfl g1 ?_
                  refine r_iload (pc := 131) dX11_shift_131 7 rfl ?_
                  cases h
                  exact r_iret dX11_shift_133
              · have h := it h c
                refine r_aload_n (pc := 99) dX11_shift_99 rfl 2 rfl ?_
                refine r_iconst (pc := 100) dX11_shift_100 kc_iconst_2 ?_
                obtain ⟨⟨I41, r42⟩, hc43, h⟩ := ob h
                refine r_callV1 (pc := 101) (av := [vI (2 : Int32)]) (S := []) dX11_shift_101 (kX11_fail hc43) g1 rfl mkX11_87 mwX11_fail rfl ⟨Nat.le_of_ble_eq_true rfl, Nat.le_of_ble_eq_true rfl⟩ (Nat.le_of_ble_eq_true rfl) ⟨Nat.le_refl _, Nat.le_refl _⟩ (fun b => b) ?_
                cases h
                exact r_iret dX11_shift_104
          · have h := it h c
            refine r_aload_n (pc := 64) dX11_shift_64 rfl 2 rfl ?_
            refine r_iconst (pc := 65) dX11_shift_65 kc_iconst_5 ?_
            obtain ⟨⟨I44, r45⟩, hc46, h⟩ := ob h
            refine r_callV1 (pc := 66) (av := [vI (5 : Int32)]) (S := []) dX11_shift_66 (kX11_fail hc46) g1 rfl mkX11_87 mwX11_fail rfl ⟨Nat.le_of_ble_eq_true rfl, Nat.le_of_ble_eq_true rfl⟩ (Nat.le_of_ble_eq_true rfl) ⟨Nat.le_refl _, Nat.le_refl _⟩ (fun b => b) ?_
            cases h
            exact r_iret dX11_shift_69
    · have h := it h c
      refine r_bipush (pc := 14) dX11_shift_14 kc_bipush_m2 ?_
      cases h
      exact r_iret dX11_shift_16
abbrev WX11_came (G : Gx) (l : Launch) (σ0 : Shp) (X1 : Stt) (rv : Option SV) : Stt → Nat → List (Nat × SV) → List SV → Prop := Wm G l yX11_came cX11_came 1 (some .int) (fun _ => True) (rmx 0 0 σ0 X1.1) σ0 (Qmx G σ0 X1 rv)
def fX11_came (σ : Shp) (I : Nat → Nat → Int32) (t : Nat)  : Option ((Int32)) :=
  if kdx σ t = 12 then
  some (I t 17)
  else none
theorem kX11_came {G : Gx} {l : Launch} {σ : Shp} {I : Nat → Nat → Int32} {J : Nat → Nat → Int64} {D : Nat → Nat → UInt64} {R : Nat → Nat → Option Nat} {t : Nat}  {r9 : Int32} (h : fX11_came σ I t = some r9) : Con G l yX11_came cX11_came 1 (some .int) 0 0 [vR (some t)] (σ, I, J, D, R) (σ, I, J, D, R) (some (vI r9)) := by
  unfold fX11_came at h
  refine Con.mk (by decide +kernel) rfl (Nat.le_of_ble_eq_true rfl) ?_
  show WX11_came G l σ (σ, I, J, D, R) (some (vI r9)) (σ, I, J, D, R) 0 _ []
  refine r_aload_n (pc := 0) dX11_came_0 rfl 0 rfl ?_
  obtain ⟨g1, h⟩ := gd h
  refine r_getI (pc := 1) dX11_came_1 fgX11_168 rfl g1 ?_
  cases h
  exact r_iret dX11_came_4
abbrev WX11_newCard (G : Gx) (l : Launch) (σ0 : Shp) (X1 : Stt) (rv : Option SV) : Stt → Nat → List (Nat × SV) → List SV → Prop := Wm G l yX11_newCard cX11_newCard 2 (some (.object "GlassHouse$Thing")) (fun _ => True) (rmx 2 43 σ0 X1.1) σ0 (Qmx G σ0 X1 rv)
def fX11_newCard_b24  (t : Nat) (σ : Shp) (I : Nat → Nat → Int32) (R : Nat → Nat → Option Nat) (s0 : Nat) (s1 : Nat) (s2 : Int32) (s3 : Nat) (s4 : Nat) : Option ((Shp) × (Nat → Nat → Int32) × (Nat → Nat → Option Nat) × (Option Nat)) :=
  if kdx σ s1 = 11 then
  (fX10_init σ I R s1 s2 (some s3) (some s4)).bind fun (I7, R8) =>
  if kdx σ t = 12 then
  if kdx σ s0 = 11 then
  let I12 := u2 I7 s0 4 (I7 t 16)
  let I13 := u2 I12 t 16 ((I12 t 16) + (1 : Int32))
  some (σ, I13, R8, (some s0))
  else none
  else none
  else none
theorem mX11_newCard_b24 {σ : Shp} {I : Nat → Nat → Int32} {R : Nat → Nat → Option Nat} {t : Nat} {σ9 : Shp} {I9 : Nat → Nat → Int32} {R9 : Nat → Nat → Option Nat} {r9 : Option Nat} {s0 : Nat} {s1 : Nat} {s2 : Int32} {s3 : Nat} {s4 : Nat} (h : fX11_newCard_b24 t σ I R s0 s1 s2 s3 s4 = some (σ9, I9, R9, r9)) : Lex σ σ9 := by
  unfold fX11_newCard_b24 at h
  replace h := (gd h).2
  obtain ⟨⟨I7, R8⟩, hc9, h⟩ := ob h
  replace h := (gd h).2
  replace h := (gd h).2
  cases h
  exact ⟨Nat.le_refl _, Nat.le_refl _⟩
theorem wX11_newCard_b24 {G : Gx} {l : Launch} {σ0 : Shp} {σ : Shp} {I : Nat → Nat → Int32} {J : Nat → Nat → Int64} {D : Nat → Nat → UInt64} {R : Nat → Nat → Option Nat} {t : Nat} {σ9 : Shp} {I9 : Nat → Nat → Int32} {R9 : Nat → Nat → Option Nat} {r9 : Option Nat} {s0 : Nat} {s1 : Nat} {s2 : Int32} {s3 : Nat} {s4 : Nat} (h : fX11_newCard_b24 t σ I R s0 s1 s2 s3 s4 = some (σ9, I9, R9, r9)) : WX11_newCard G l σ0 (σ9, I9, J, D, R9) (some (vR r9)) (σ, I, J, D, R) 24 [(0, vR (some t))] [vR (some s4), vR (some s3), vI s2, vR (some s1), vR (some s0)] := by
  unfold fX11_newCard_b24 at h
  obtain ⟨g6, h⟩ := gd h
  obtain ⟨⟨I7, R8⟩, hc9, h⟩ := ob h
  refine r_callI0 (pc := 24) (av := [vI s2, vR (some s3), vR (some s4)]) (S := [vR (some s0)]) dX11_newCard_24 (kX10_init hc9) mkX11_215 rfl mwX10_init rfl ⟨Nat.le_of_ble_eq_true rfl, Nat.le_of_ble_eq_true rfl⟩ (Nat.le_of_ble_eq_true rfl) ⟨Nat.le_refl _, Nat.le_refl _⟩ (fun b => b) ?_
  refine r_astore_n (pc := 27) (L' := [(1, vR (some s0)), (0, vR (some t))]) dX11_newCard_27 rfl (by decide) rfl ?_
  refine r_aload_n (pc := 28) dX11_newCard_28 rfl 0 rfl ?_
  refine r_aload_n (pc := 29) dX11_newCard_29 rfl 1 rfl ?_
  obtain ⟨g10, h⟩ := gd h
  refine r_getI (pc := 30) dX11_newCard_30 fgX11_518 rfl g10 ?_
  obtain ⟨g11, h⟩ := gd h
  refine r_putI (pc := 33) dX11_newCard_33 fwX11_240 rfl g11 ?_
  refine r_aload_n (pc := 36) dX11_newCard_36 rfl 1 rfl ?_
  refine r_dup (pc := 37) dX11_newCard_37 rfl ?_
  refine r_getI (pc := 38) dX11_newCard_38 fgX11_518 rfl g10 ?_
  refine r_iconst (pc := 41) dX11_newCard_41 kc_iconst_1 ?_
  refine r_iadd (pc := 42) dX11_newCard_42 ?_
  refine r_putI (pc := 43) dX11_newCard_43 fwX11_518 rfl g10 ?_
  refine r_aload_n (pc := 46) dX11_newCard_46 rfl 0 rfl ?_
  cases h
  exact r_aret (Or.inl ⟨_, rfl⟩) dX11_newCard_47
def fX11_newCard_b20  (t : Nat) (σ : Shp) (I : Nat → Nat → Int32) (R : Nat → Nat → Option Nat) (s0 : Nat) (s1 : Nat) (s2 : Int32) (s3 : Nat) : Option ((Shp) × (Nat → Nat → Int32) × (Nat → Nat → Option Nat) × (Option Nat)) :=
  let σ5 := mkA σ 26 (Int32.toNatClampNeg (2 : Int32))
  fX11_newCard_b24 t σ5 I R s0 s1 s2 s3 (nxx σ + 4)
theorem mX11_newCard_b20 {σ : Shp} {I : Nat → Nat → Int32} {R : Nat → Nat → Option Nat} {t : Nat} {σ9 : Shp} {I9 : Nat → Nat → Int32} {R9 : Nat → Nat → Option Nat} {r9 : Option Nat} {s0 : Nat} {s1 : Nat} {s2 : Int32} {s3 : Nat} (h : fX11_newCard_b20 t σ I R s0 s1 s2 s3 = some (σ9, I9, R9, r9)) : Lex σ σ9 := by
  unfold fX11_newCard_b20 at h
  exact Lex_mkA (mX11_newCard_b24 h)
theorem wX11_newCard_b20 {G : Gx} {l : Launch} {σ0 : Shp} {σ : Shp} {I : Nat → Nat → Int32} {J : Nat → Nat → Int64} {D : Nat → Nat → UInt64} {R : Nat → Nat → Option Nat} {t : Nat} {σ9 : Shp} {I9 : Nat → Nat → Int32} {R9 : Nat → Nat → Option Nat} {r9 : Option Nat} {s0 : Nat} {s1 : Nat} {s2 : Int32} {s3 : Nat} (h : fX11_newCard_b20 t σ I R s0 s1 s2 s3 = some (σ9, I9, R9, r9)) : WX11_newCard G l σ0 (σ9, I9, J, D, R9) (some (vR r9)) (σ, I, J, D, R) 20 [(0, vR (some t))] [vR (some s3), vI s2, vR (some s1), vR (some s0)] := by
  unfold fX11_newCard_b20 at h
  refine r_iconst (pc := 20) dX11_newCard_20 kc_iconst_2 ?_
  refine r_anewa (pc := 21) (t := 26) dX11_newCard_21 (by decide) cnX11_102 (by decide) (by decide) (Nat.sub_le_sub_right (mX11_newCard_b24 h).1 _) (Nat.sub_le_sub_right (mX11_newCard_b24 h).2 _) ?_
  refine r_sub [0] rfl ?_
  exact wX11_newCard_b24 h
def fX11_newCard_b13  (t : Nat) (σ : Shp) (I : Nat → Nat → Int32) (R : Nat → Nat → Option Nat) (s0 : Nat) : Option ((Shp) × (Nat → Nat → Int32) × (Nat → Nat → Option Nat) × (Option Nat)) :=
  let σ4 := mkA σ 21 (Int32.toNatClampNeg (8 : Int32))
  fX11_newCard_b20 t σ4 I R s0 s0 (17 : Int32) (nxx σ + 4)
theorem mX11_newCard_b13 {σ : Shp} {I : Nat → Nat → Int32} {R : Nat → Nat → Option Nat} {t : Nat} {σ9 : Shp} {I9 : Nat → Nat → Int32} {R9 : Nat → Nat → Option Nat} {r9 : Option Nat} {s0 : Nat} (h : fX11_newCard_b13 t σ I R s0 = some (σ9, I9, R9, r9)) : Lex σ σ9 := by
  unfold fX11_newCard_b13 at h
  exact Lex_mkA (mX11_newCard_b20 h)
theorem wX11_newCard_b13 {G : Gx} {l : Launch} {σ0 : Shp} {σ : Shp} {I : Nat → Nat → Int32} {J : Nat → Nat → Int64} {D : Nat → Nat → UInt64} {R : Nat → Nat → Option Nat} {t : Nat} {σ9 : Shp} {I9 : Nat → Nat → Int32} {R9 : Nat → Nat → Option Nat} {r9 : Option Nat} {s0 : Nat} (h : fX11_newCard_b13 t σ I R s0 = some (σ9, I9, R9, r9)) : WX11_newCard G l σ0 (σ9, I9, J, D, R9) (some (vR r9)) (σ, I, J, D, R) 13 [(0, vR (some t))] [vR (some s0)] := by
  unfold fX11_newCard_b13 at h
  refine r_dup (pc := 13) dX11_newCard_13 rfl ?_
  refine r_bipush (pc := 14) dX11_newCard_14 kc_bipush_17 ?_
  refine r_bipush (pc := 16) dX11_newCard_16 kc_bipush_8 ?_
  refine r_newa (pc := 18) (t := 21) (ti := 1) (ty := .long) dX11_newCard_18 rfl (by decide) ac21 (by decide) (by decide) (Nat.sub_le_sub_right (mX11_newCard_b20 h).1 _) (Nat.sub_le_sub_right (mX11_newCard_b20 h).2 _) ?_
  refine r_sub [0] rfl ?_
  exact wX11_newCard_b20 h
def fX11_newCard (σ : Shp) (I : Nat → Nat → Int32) (R : Nat → Nat → Option Nat) (t : Nat)  : Option ((Shp) × (Nat → Nat → Int32) × (Nat → Nat → Option Nat) × (Option Nat)) :=
  if kdx σ t = 12 then
  let I2 := u2 I t 12 ((I t 12) + (1 : Int32))
  let σ3 := mkO σ 11 9
  fX11_newCard_b13 t σ3 I2 R (nxx σ + 4)
  else none
theorem mX11_newCard {σ : Shp} {I : Nat → Nat → Int32} {R : Nat → Nat → Option Nat} {t : Nat}  {σ9 : Shp} {I9 : Nat → Nat → Int32} {R9 : Nat → Nat → Option Nat} {r9 : Option Nat} (h : fX11_newCard σ I R t = some (σ9, I9, R9, r9)) : Lex σ σ9 := by
  unfold fX11_newCard at h
  replace h := (gd h).2
  exact Lex_mkO (mX11_newCard_b13 h)
theorem kX11_newCard {G : Gx} {l : Launch} {σ : Shp} {I : Nat → Nat → Int32} {J : Nat → Nat → Int64} {D : Nat → Nat → UInt64} {R : Nat → Nat → Option Nat} {t : Nat}  {σ9 : Shp} {I9 : Nat → Nat → Int32} {R9 : Nat → Nat → Option Nat} {r9 : Option Nat} (h : fX11_newCard σ I R t = some (σ9, I9, R9, r9)) : Con G l yX11_newCard cX11_newCard 2 (some (.object "GlassHouse$Thing")) 2 43 [vR (some t)] (σ, I, J, D, R) (σ9, I9, J, D, R9) (some (vR r9)) := by
  unfold fX11_newCard at h
  refine Con.mk (by decide +kernel) rfl (Nat.le_of_ble_eq_true rfl) ?_
  show WX11_newCard G l σ (σ9, I9, J, D, R9) (some (vR r9)) (σ, I, J, D, R) 0 _ []
  refine r_aload_n (pc := 0) dX11_newCard_0 rfl 0 rfl ?_
  refine r_dup (pc := 1) dX11_newCard_1 rfl ?_
  obtain ⟨g1, h⟩ := gd h
  refine r_getI (pc := 2) dX11_newCard_2 fgX11_243 rfl g1 ?_
  refine r_iconst (pc := 5) dX11_newCard_5 kc_iconst_1 ?_
  refine r_iadd (pc := 6) dX11_newCard_6 ?_
  refine r_putI (pc := 7) dX11_newCard_7 fwX11_243 rfl g1 ?_
  refine r_new (pc := 10) dX11_newCard_10 cls10 ftk10 cnX11_102 ins10 ini10 (Nat.sub_le_sub_right (mX11_newCard_b13 h).1 _) (Nat.sub_le_sub_right (mX11_newCard_b13 h).2 _) ?_
  refine r_sub [0] rfl ?_
  exact wX11_newCard_b13 h
abbrev WX11_copied (G : Gx) (l : Launch) (dn wn : Nat) (σ0 : Shp) (X1 : Stt) (rv : Option SV) : Stt → Nat → List (Nat × SV) → List SV → Prop := Wm G l yX11_copied cX11_copied 6 (some (.object "GlassHouse$Thing")) (fun _ => True) (rmx dn wn σ0 X1.1) σ0 (Qmx G σ0 X1 rv)
def fX11_copied_b157 (fr : (Shp) → (Nat → Nat → Int32) → (Nat → Nat → Int64) → (Nat → Nat → Option Nat) → (Nat) → (Option Nat) → (Int32) → (Int32) → Option ((Shp) × (Nat → Nat → Int32) × (Nat → Nat → Int64) × (Nat → Nat → Option Nat) × (Option Nat))) (q120 : (Shp) → (Nat → Nat → Int32) → (Nat → Nat → Int64) → (Nat → Nat → Option Nat) → (Option Nat) → (Int32) → (Int32) → (Option Nat) → (Int32) → (Option ((Shp) × (Nat → Nat → Int32) × (Nat → Nat → Int64) × (Nat → Nat → Option Nat) × (Option Nat)))) (t : Nat) (σ : Shp) (I : Nat → Nat → Int32) (J : Nat → Nat → Int64) (R : Nat → Nat → Option Nat) (x1 : Option Nat) (x2 : Int32) (x3 : Int32) (x4 : Option Nat) (x5 : Int32) (s0 : Nat) (s1 : Int32) (s2 : Option Nat) : Option ((Shp) × (Nat → Nat → Int32) × (Nat → Nat → Int64) × (Nat → Nat → Option Nat) × (Option Nat)) :=
  if kdx σ s0 = 26 then
  if ¬ (s1 < 0 ∨ lnx σ s0 ≤ Int32.toNatClampNeg s1) then
  if okR σ 11 s2 = true then
  let R41 := u2 R s0 (Int32.toNatClampNeg s1) s2
  let v42 := x5 + (1 : Int32)
  q120 σ I J R41 x1 x2 x3 x4 v42
  else none
  else none
  else none
theorem mX11_copied_b157 {σ : Shp} {I : Nat → Nat → Int32} {J : Nat → Nat → Int64} {R : Nat → Nat → Option Nat} {t : Nat} {σ9 : Shp} {I9 : Nat → Nat → Int32} {J9 : Nat → Nat → Int64} {R9 : Nat → Nat → Option Nat} {r9 : Option Nat} {q120 : (Shp) → (Nat → Nat → Int32) → (Nat → Nat → Int64) → (Nat → Nat → Option Nat) → (Option Nat) → (Int32) → (Int32) → (Option Nat) → (Int32) → (Option ((Shp) × (Nat → Nat → Int32) × (Nat → Nat → Int64) × (Nat → Nat → Option Nat) × (Option Nat)))} {x1 : Option Nat} {x2 : Int32} {x3 : Int32} {x4 : Option Nat} {x5 : Int32} {s0 : Nat} {s1 : Int32} {s2 : Option Nat} {fr : (Shp) → (Nat → Nat → Int32) → (Nat → Nat → Int64) → (Nat → Nat → Option Nat) → (Nat) → (Option Nat) → (Int32) → (Int32) → Option ((Shp) × (Nat → Nat → Int32) × (Nat → Nat → Int64) × (Nat → Nat → Option Nat) × (Option Nat))} (mfr : ∀ {σ : Shp} {I : Nat → Nat → Int32} {J : Nat → Nat → Int64} {R : Nat → Nat → Option Nat} {t : Nat} {x1 : Option Nat} {x2 : Int32} {x3 : Int32} {σ9 : Shp} {I9 : Nat → Nat → Int32} {J9 : Nat → Nat → Int64} {R9 : Nat → Nat → Option Nat} {r9 : Option Nat}, fr σ I J R t x1 x2 x3 = some (σ9, I9, J9, R9, r9) → Lex σ σ9) (mq120 : ∀ (σ : Shp) (I : Nat → Nat → Int32) (J : Nat → Nat → Int64) (R : Nat → Nat → Option Nat) (x1 : Option Nat) (x2 : Int32) (x3 : Int32) (x4 : Option Nat) (x5 : Int32), q120 σ I J R x1 x2 x3 x4 x5 = some (σ9, I9, J9, R9, r9) → Lex σ σ9) (h : fX11_copied_b157 fr q120 t σ I J R x1 x2 x3 x4 x5 s0 s1 s2 = some (σ9, I9, J9, R9, r9)) : Lex σ σ9 := by
  unfold fX11_copied_b157 at h
  replace h := (gd h).2
  replace h := (gd h).2
  replace h := (gd h).2
  exact mq120 _ _ _ _ _ _ _ _ _ h
theorem wX11_copied_b157 {G : Gx} {l : Launch} {dn wn dr wr : Nat} {σ0 : Shp} {σ : Shp} {I : Nat → Nat → Int32} {J : Nat → Nat → Int64} {D : Nat → Nat → UInt64} {R : Nat → Nat → Option Nat} {t : Nat} {σ9 : Shp} {I9 : Nat → Nat → Int32} {J9 : Nat → Nat → Int64} {R9 : Nat → Nat → Option Nat} {r9 : Option Nat} {q120 : (Shp) → (Nat → Nat → Int32) → (Nat → Nat → Int64) → (Nat → Nat → Option Nat) → (Option Nat) → (Int32) → (Int32) → (Option Nat) → (Int32) → (Option ((Shp) × (Nat → Nat → Int32) × (Nat → Nat → Int64) × (Nat → Nat → Option Nat) × (Option Nat)))} {x1 : Option Nat} {x2 : Int32} {x3 : Int32} {x4 : Option Nat} {x5 : Int32} {s0 : Nat} {s1 : Int32} {s2 : Option Nat} {fr : (Shp) → (Nat → Nat → Int32) → (Nat → Nat → Int64) → (Nat → Nat → Option Nat) → (Nat) → (Option Nat) → (Int32) → (Int32) → Option ((Shp) × (Nat → Nat → Int32) × (Nat → Nat → Int64) × (Nat → Nat → Option Nat) × (Option Nat))} (hdr : dr + 1 ≤ dn ∧ 25 + wr ≤ wn ∧ 3 ≤ dn ∧ 65 ≤ wn) (ihn : ∀ {σ : Shp} {I : Nat → Nat → Int32} {J : Nat → Nat → Int64} {D : Nat → Nat → UInt64} {R : Nat → Nat → Option Nat} {t : Nat} {x1 : Option Nat} {x2 : Int32} {x3 : Int32} {σ9 : Shp} {I9 : Nat → Nat → Int32} {J9 : Nat → Nat → Int64} {R9 : Nat → Nat → Option Nat} {r9 : Option Nat}, fr σ I J R t x1 x2 x3 = some (σ9, I9, J9, R9, r9) → Con G l yX11_copied cX11_copied 6 (some (.object "GlassHouse$Thing")) dr wr [vR (some t), vR x1, vI x2, vI x3] (σ, I, J, D, R) (σ9, I9, J9, D, R9) (some (vR r9))) (mfr : ∀ {σ : Shp} {I : Nat → Nat → Int32} {J : Nat → Nat → Int64} {R : Nat → Nat → Option Nat} {t : Nat} {x1 : Option Nat} {x2 : Int32} {x3 : Int32} {σ9 : Shp} {I9 : Nat → Nat → Int32} {J9 : Nat → Nat → Int64} {R9 : Nat → Nat → Option Nat} {r9 : Option Nat}, fr σ I J R t x1 x2 x3 = some (σ9, I9, J9, R9, r9) → Lex σ σ9) (hq120 : ∀ (σ : Shp) (I : Nat → Nat → Int32) (J : Nat → Nat → Int64) (R : Nat → Nat → Option Nat) (x1 : Option Nat) (x2 : Int32) (x3 : Int32) (x4 : Option Nat) (x5 : Int32), q120 σ I J R x1 x2 x3 x4 x5 = some (σ9, I9, J9, R9, r9) → WX11_copied G l dn wn σ0 (σ9, I9, J9, D, R9) (some (vR r9)) (σ, I, J, D, R) 120 [(0, vR (some t)), (1, vR x1), (2, vI x2), (3, vI x3), (4, vR x4), (5, vI x5)] []) (mq120 : ∀ (σ : Shp) (I : Nat → Nat → Int32) (J : Nat → Nat → Int64) (R : Nat → Nat → Option Nat) (x1 : Option Nat) (x2 : Int32) (x3 : Int32) (x4 : Option Nat) (x5 : Int32), q120 σ I J R x1 x2 x3 x4 x5 = some (σ9, I9, J9, R9, r9) → Lex σ σ9) (h : fX11_copied_b157 fr q120 t σ I J R x1 x2 x3 x4 x5 s0 s1 s2 = some (σ9, I9, J9, R9, r9)) : WX11_copied G l dn wn σ0 (σ9, I9, J9, D, R9) (some (vR r9)) (σ, I, J, D, R) 157 [(0, vR (some t)), (1, vR x1), (2, vI x2), (3, vI x3), (4, vR x4), (5, vI x5)] [vR s2, vI s1, vR (some s0)] := by
  unfold fX11_copied_b157 at h
  refine r_goto (pc := 157) (tgt := 167) dX11_copied_157 rfl ?_
  obtain ⟨g38, h⟩ := gd h
  obtain ⟨g39, h⟩ := gd h
  obtain ⟨g40, h⟩ := gd h
  refine r_aastore (c := 10) (pc := 167) dX11_copied_167 g38 (by decide) g39 g40 ?_
  refine r_iinc (pc := 168) (v := (x5 + (1 : Int32))) (L' := [(5, vI (x5 + (1 : Int32))), (0, vR (some t)), (1, vR x1), (2, vI x2), (3, vI x3), (4, vR x4)]) dX11_copied_168 5 rfl (kc_inc_1 _) (by decide) rfl ?_
  refine r_goto (pc := 171) (tgt := 120) dX11_copied_171 rfl ?_
  refine r_sub [1, 2, 3, 4, 5, 0] rfl ?_
  exact hq120 _ _ _ _ _ _ _ _ _ h
def fX11_copied_l120 (fr : (Shp) → (Nat → Nat → Int32) → (Nat → Nat → Int64) → (Nat → Nat → Option Nat) → (Nat) → (Option Nat) → (Int32) → (Int32) → Option ((Shp) × (Nat → Nat → Int32) × (Nat → Nat → Int64) × (Nat → Nat → Option Nat) × (Option Nat)))  (t : Nat) : Nat → (Shp) → (Nat → Nat → Int32) → (Nat → Nat → Int64) → (Nat → Nat → Option Nat) → (Option Nat) → (Int32) → (Int32) → (Option Nat) → (Int32) → Option ((Shp) × (Nat → Nat → Int32) × (Nat → Nat → Int64) × (Nat → Nat → Option Nat) × (Option Nat))
  | 0, _, _, _, _, _, _, _, _, _ => none
  | n + 1, σ, I, J, R, x1, x2, x3, x4, x5 =>
    (x4 : Option Nat).bind fun a13 =>
    if kdx σ a13 = 11 then
    ((R a13 2) : Option Nat).bind fun a15 =>
    if kdx σ a15 = 26 then
    if (Int32.ofNat (lnx σ a15)) ≤ x5 then
      some (σ, I, J, R, (some a13))
    else
      if x2 = 0 then
        (x1 : Option Nat).bind fun a17 =>
        if kdx σ a17 = 11 then
        ((R a17 2) : Option Nat).bind fun a19 =>
        if kdx σ a19 = 26 then
        if ¬ (x5 < 0 ∨ lnx σ a19 ≤ Int32.toNatClampNeg x5) then
        if ¬ (x5 < 0 ∨ lnx σ a15 ≤ Int32.toNatClampNeg x5) then
        if okR σ 11 (R a19 (Int32.toNatClampNeg x5)) = true then
        let R24 := u2 R a15 (Int32.toNatClampNeg x5) (R a19 (Int32.toNatClampNeg x5))
        let v25 := x5 + (1 : Int32)
        fX11_copied_l120 fr t n σ I J R24 x1 x2 x3 x4 v25
        else none
        else none
        else none
        else none
        else none
      else
        (x1 : Option Nat).bind fun a26 =>
        if kdx σ a26 = 11 then
        ((R a26 2) : Option Nat).bind fun a28 =>
        if kdx σ a28 = 26 then
        if ¬ (x5 < 0 ∨ lnx σ a28 ≤ Int32.toNatClampNeg x5) then
        if kdx σ t = 12 then
        (fr σ I J R t (R a28 (Int32.toNatClampNeg x5)) (1 : Int32) (x3 + (1 : Int32))).bind fun (σ32, I33, J34, R35, r36) =>
        fX11_copied_b157 fr (fX11_copied_l120 fr t n) t σ32 I33 J34 R35 x1 x2 x3 x4 x5 a15 x5 r36
        else none
        else none
        else none
        else none
    else none
    else none
theorem mX11_copied_l120  {t : Nat} {σ9 : Shp} {I9 : Nat → Nat → Int32} {J9 : Nat → Nat → Int64} {R9 : Nat → Nat → Option Nat} {r9 : Option Nat} {fr : (Shp) → (Nat → Nat → Int32) → (Nat → Nat → Int64) → (Nat → Nat → Option Nat) → (Nat) → (Option Nat) → (Int32) → (Int32) → Option ((Shp) × (Nat → Nat → Int32) × (Nat → Nat → Int64) × (Nat → Nat → Option Nat) × (Option Nat))} (mfr : ∀ {σ : Shp} {I : Nat → Nat → Int32} {J : Nat → Nat → Int64} {R : Nat → Nat → Option Nat} {t : Nat} {x1 : Option Nat} {x2 : Int32} {x3 : Int32} {σ9 : Shp} {I9 : Nat → Nat → Int32} {J9 : Nat → Nat → Int64} {R9 : Nat → Nat → Option Nat} {r9 : Option Nat}, fr σ I J R t x1 x2 x3 = some (σ9, I9, J9, R9, r9) → Lex σ σ9) : ∀ (n : Nat) (σ : Shp) (I : Nat → Nat → Int32) (J : Nat → Nat → Int64) (R : Nat → Nat → Option Nat) (x1 : Option Nat) (x2 : Int32) (x3 : Int32) (x4 : Option Nat) (x5 : Int32), fX11_copied_l120 fr t n σ I J R x1 x2 x3 x4 x5 = some (σ9, I9, J9, R9, r9) → Lex σ σ9 := by
  intro n
  induction n with
  | zero =>
    intro σ I J R x1 x2 x3 x4 x5 h
    have h : none = some _ := h
    cases h
  | succ n ih =>
    intro σ I J R x1 x2 x3 x4 x5 h
    rw [fX11_copied_l120] at h
    obtain ⟨a13, ha13, h⟩ := ob h
    replace h := (gd h).2
    obtain ⟨a15, ha15, h⟩ := ob h
    replace h := (gd h).2
    rcases itc h with ⟨c, h⟩ | ⟨c, h⟩
    · cases h
      exact ⟨Nat.le_refl _, Nat.le_refl _⟩
    · rcases itc h with ⟨c, h⟩ | ⟨c, h⟩
      · obtain ⟨a17, ha17, h⟩ := ob h
        replace h := (gd h).2
        obtain ⟨a19, ha19, h⟩ := ob h
        replace h := (gd h).2
        replace h := (gd h).2
        replace h := (gd h).2
        replace h := (gd h).2
        exact ih _ _ _ _ _ _ _ _ _ h
      · obtain ⟨a26, ha26, h⟩ := ob h
        replace h := (gd h).2
        obtain ⟨a28, ha28, h⟩ := ob h
        replace h := (gd h).2
        replace h := (gd h).2
        replace h := (gd h).2
        obtain ⟨⟨σ32, I33, J34, R35, r36⟩, hc37, h⟩ := ob h
        refine Lex.trans (mfr hc37) ?_
        exact mX11_copied_b157 mfr ih h
theorem wX11_copied_l120 {G : Gx} {l : Launch} {dn wn dr wr : Nat} {σ0 : Shp} {D : Nat → Nat → UInt64} {t : Nat} {σ9 : Shp} {I9 : Nat → Nat → Int32} {J9 : Nat → Nat → Int64} {R9 : Nat → Nat → Option Nat} {r9 : Option Nat} {fr : (Shp) → (Nat → Nat → Int32) → (Nat → Nat → Int64) → (Nat → Nat → Option Nat) → (Nat) → (Option Nat) → (Int32) → (Int32) → Option ((Shp) × (Nat → Nat → Int32) × (Nat → Nat → Int64) × (Nat → Nat → Option Nat) × (Option Nat))} (hdr : dr + 1 ≤ dn ∧ 25 + wr ≤ wn ∧ 3 ≤ dn ∧ 65 ≤ wn) (ihn : ∀ {σ : Shp} {I : Nat → Nat → Int32} {J : Nat → Nat → Int64} {D : Nat → Nat → UInt64} {R : Nat → Nat → Option Nat} {t : Nat} {x1 : Option Nat} {x2 : Int32} {x3 : Int32} {σ9 : Shp} {I9 : Nat → Nat → Int32} {J9 : Nat → Nat → Int64} {R9 : Nat → Nat → Option Nat} {r9 : Option Nat}, fr σ I J R t x1 x2 x3 = some (σ9, I9, J9, R9, r9) → Con G l yX11_copied cX11_copied 6 (some (.object "GlassHouse$Thing")) dr wr [vR (some t), vR x1, vI x2, vI x3] (σ, I, J, D, R) (σ9, I9, J9, D, R9) (some (vR r9))) (mfr : ∀ {σ : Shp} {I : Nat → Nat → Int32} {J : Nat → Nat → Int64} {R : Nat → Nat → Option Nat} {t : Nat} {x1 : Option Nat} {x2 : Int32} {x3 : Int32} {σ9 : Shp} {I9 : Nat → Nat → Int32} {J9 : Nat → Nat → Int64} {R9 : Nat → Nat → Option Nat} {r9 : Option Nat}, fr σ I J R t x1 x2 x3 = some (σ9, I9, J9, R9, r9) → Lex σ σ9) : ∀ (n : Nat) (σ : Shp) (I : Nat → Nat → Int32) (J : Nat → Nat → Int64) (R : Nat → Nat → Option Nat) (x1 : Option Nat) (x2 : Int32) (x3 : Int32) (x4 : Option Nat) (x5 : Int32), fX11_copied_l120 fr t n σ I J R x1 x2 x3 x4 x5 = some (σ9, I9, J9, R9, r9) → WX11_copied G l dn wn σ0 (σ9, I9, J9, D, R9) (some (vR r9)) (σ, I, J, D, R) 120 [(0, vR (some t)), (1, vR x1), (2, vI x2), (3, vI x3), (4, vR x4), (5, vI x5)] [] := by
  intro n
  induction n with
  | zero =>
    intro σ I J R x1 x2 x3 x4 x5 h
    have h : none = some _ := h
    cases h
  | succ n ih =>
    intro σ I J R x1 x2 x3 x4 x5 h
    rw [fX11_copied_l120] at h
    refine r_iload (pc := 120) dX11_copied_120 5 rfl ?_
    refine r_aload (pc := 122) dX11_copied_122 4 rfl ?_
    obtain ⟨a13, ha13, h⟩ := ob h
    refine r_ref0 ha13 ?_
    obtain ⟨g14, h⟩ := gd h
    obtain ⟨a15, ha15, h⟩ := ob h
    refine r_getS (pc := 124) dX11_copied_124 fgX11_101 rfl g14 ha15 ?_
    obtain ⟨g16, h⟩ := gd h
    refine r_alen (pc := 127) dX11_copied_127 g16 (by decide) ?_
    refine r_icmp_ge (pc := 128) (tgt := 174) dX11_copied_128 rfl (fun c => ?_) (fun c => ?_)
    · have h := it h c
      refine r_aload (pc := 174) dX11_copied_174 4 rfl ?_
      refine r_ref0 ha13 ?_
      cases h
      exact r_aret (Or.inl ⟨_, rfl⟩) dX11_copied_176
    · have h := ie h c
      refine r_aload (pc := 131) dX11_copied_131 4 rfl ?_
      refine r_ref0 ha13 ?_
      refine r_getS (pc := 133) dX11_copied_133 fgX11_101 rfl g14 ha15 ?_
      refine r_iload (pc := 136) dX11_copied_136 5 rfl ?_
      refine r_iload_n (pc := 138) dX11_copied_138 rfl 2 rfl ?_
      refine r_if_eq (pc := 139) (tgt := 160) dX11_copied_139 rfl (fun c => ?_) (fun c => ?_)
      · have h := it h c
        refine r_aload_n (pc := 160) dX11_copied_160 rfl 1 rfl ?_
        obtain ⟨a17, ha17, h⟩ := ob h
        refine r_ref0 ha17 ?_
        obtain ⟨g18, h⟩ := gd h
        obtain ⟨a19, ha19, h⟩ := ob h
        refine r_getS (pc := 161) dX11_copied_161 fgX11_101 rfl g18 ha19 ?_
        refine r_iload (pc := 164) dX11_copied_164 5 rfl ?_
        obtain ⟨g20, h⟩ := gd h
        obtain ⟨g21, h⟩ := gd h
        refine r_aaload (pc := 166) dX11_copied_166 g20 (by decide) g21 ?_
        obtain ⟨g22, h⟩ := gd h
        obtain ⟨g23, h⟩ := gd h
        refine r_aastore (c := 10) (pc := 167) dX11_copied_167 g16 (by decide) g22 g23 ?_
        refine r_iinc (pc := 168) (v := (x5 + (1 : Int32))) (L' := [(5, vI (x5 + (1 : Int32))), (0, vR (some t)), (1, vR x1), (2, vI x2), (3, vI x3), (4, vR x4)]) dX11_copied_168 5 rfl (kc_inc_1 _) (by decide) rfl ?_
        refine r_goto (pc := 171) (tgt := 120) dX11_copied_171 rfl ?_
        refine r_sub [1, 2, 3, 4, 5, 0] rfl ?_
        exact ih _ _ _ _ _ _ _ _ _ h
      · have h := ie h c
        refine r_aload_n (pc := 142) dX11_copied_142 rfl 0 rfl ?_
        refine r_aload_n (pc := 143) dX11_copied_143 rfl 1 rfl ?_
        obtain ⟨a26, ha26, h⟩ := ob h
        refine r_ref0 ha26 ?_
        obtain ⟨g27, h⟩ := gd h
        obtain ⟨a28, ha28, h⟩ := ob h
        refine r_getS (pc := 144) dX11_copied_144 fgX11_101 rfl g27 ha28 ?_
        refine r_iload (pc := 147) dX11_copied_147 5 rfl ?_
        obtain ⟨g29, h⟩ := gd h
        obtain ⟨g30, h⟩ := gd h
        refine r_aaload (pc := 149) dX11_copied_149 g29 (by decide) g30 ?_
        refine r_iconst (pc := 150) dX11_copied_150 kc_iconst_1 ?_
        refine r_iload_n (pc := 151) dX11_copied_151 rfl 3 rfl ?_
        refine r_iconst (pc := 152) dX11_copied_152 kc_iconst_1 ?_
        refine r_iadd (pc := 153) dX11_copied_153 ?_
        obtain ⟨g31, h⟩ := gd h
        obtain ⟨⟨σ32, I33, J34, R35, r36⟩, hc37, h⟩ := ob h
        refine r_callV1 (pc := 154) (av := [vR (R a28 (Int32.toNatClampNeg x5)), vI (1 : Int32), vI (x3 + (1 : Int32))]) (S := [vI x5, vR (some a15)]) dX11_copied_154 (ihn hc37) g31 rfl mkX11_198 mwX11_copied rfl ⟨by simp only [rmx]; omega, by simp only [rmx]; omega⟩ (Nat.le_of_ble_eq_true rfl) (mfr hc37) (bdx_le (mfr hc37) (mX11_copied_b157 mfr (mX11_copied_l120 mfr n) h)) ?_
        refine r_sub [0, 1, 2, 3, 4, 5] rfl ?_
        exact wX11_copied_b157 hdr ihn mfr ih (mX11_copied_l120 mfr n) h
def fX11_copied_b115 (fr : (Shp) → (Nat → Nat → Int32) → (Nat → Nat → Int64) → (Nat → Nat → Option Nat) → (Nat) → (Option Nat) → (Int32) → (Int32) → Option ((Shp) × (Nat → Nat → Int32) × (Nat → Nat → Int64) × (Nat → Nat → Option Nat) × (Option Nat)))  (t : Nat) (σ : Shp) (I : Nat → Nat → Int32) (J : Nat → Nat → Int64) (R : Nat → Nat → Option Nat) (x1 : Option Nat) (x2 : Int32) (x3 : Int32) (s0 : Option Nat) : Option ((Shp) × (Nat → Nat → Int32) × (Nat → Nat → Int64) × (Nat → Nat → Option Nat) × (Option Nat)) :=
  fX11_copied_l120 fr t FUx σ I J R x1 x2 x3 s0 (0 : Int32)
theorem mX11_copied_b115 {σ : Shp} {I : Nat → Nat → Int32} {J : Nat → Nat → Int64} {R : Nat → Nat → Option Nat} {t : Nat} {σ9 : Shp} {I9 : Nat → Nat → Int32} {J9 : Nat → Nat → Int64} {R9 : Nat → Nat → Option Nat} {r9 : Option Nat} {x1 : Option Nat} {x2 : Int32} {x3 : Int32} {s0 : Option Nat} {fr : (Shp) → (Nat → Nat → Int32) → (Nat → Nat → Int64) → (Nat → Nat → Option Nat) → (Nat) → (Option Nat) → (Int32) → (Int32) → Option ((Shp) × (Nat → Nat → Int32) × (Nat → Nat → Int64) × (Nat → Nat → Option Nat) × (Option Nat))} (mfr : ∀ {σ : Shp} {I : Nat → Nat → Int32} {J : Nat → Nat → Int64} {R : Nat → Nat → Option Nat} {t : Nat} {x1 : Option Nat} {x2 : Int32} {x3 : Int32} {σ9 : Shp} {I9 : Nat → Nat → Int32} {J9 : Nat → Nat → Int64} {R9 : Nat → Nat → Option Nat} {r9 : Option Nat}, fr σ I J R t x1 x2 x3 = some (σ9, I9, J9, R9, r9) → Lex σ σ9) (h : fX11_copied_b115 fr t σ I J R x1 x2 x3 s0 = some (σ9, I9, J9, R9, r9)) : Lex σ σ9 := by
  unfold fX11_copied_b115 at h
  exact mX11_copied_l120 mfr _ _ _ _ _ _ _ _ _ _ h
theorem wX11_copied_b115 {G : Gx} {l : Launch} {dn wn dr wr : Nat} {σ0 : Shp} {σ : Shp} {I : Nat → Nat → Int32} {J : Nat → Nat → Int64} {D : Nat → Nat → UInt64} {R : Nat → Nat → Option Nat} {t : Nat} {σ9 : Shp} {I9 : Nat → Nat → Int32} {J9 : Nat → Nat → Int64} {R9 : Nat → Nat → Option Nat} {r9 : Option Nat} {x1 : Option Nat} {x2 : Int32} {x3 : Int32} {s0 : Option Nat} {fr : (Shp) → (Nat → Nat → Int32) → (Nat → Nat → Int64) → (Nat → Nat → Option Nat) → (Nat) → (Option Nat) → (Int32) → (Int32) → Option ((Shp) × (Nat → Nat → Int32) × (Nat → Nat → Int64) × (Nat → Nat → Option Nat) × (Option Nat))} (hdr : dr + 1 ≤ dn ∧ 25 + wr ≤ wn ∧ 3 ≤ dn ∧ 65 ≤ wn) (ihn : ∀ {σ : Shp} {I : Nat → Nat → Int32} {J : Nat → Nat → Int64} {D : Nat → Nat → UInt64} {R : Nat → Nat → Option Nat} {t : Nat} {x1 : Option Nat} {x2 : Int32} {x3 : Int32} {σ9 : Shp} {I9 : Nat → Nat → Int32} {J9 : Nat → Nat → Int64} {R9 : Nat → Nat → Option Nat} {r9 : Option Nat}, fr σ I J R t x1 x2 x3 = some (σ9, I9, J9, R9, r9) → Con G l yX11_copied cX11_copied 6 (some (.object "GlassHouse$Thing")) dr wr [vR (some t), vR x1, vI x2, vI x3] (σ, I, J, D, R) (σ9, I9, J9, D, R9) (some (vR r9))) (mfr : ∀ {σ : Shp} {I : Nat → Nat → Int32} {J : Nat → Nat → Int64} {R : Nat → Nat → Option Nat} {t : Nat} {x1 : Option Nat} {x2 : Int32} {x3 : Int32} {σ9 : Shp} {I9 : Nat → Nat → Int32} {J9 : Nat → Nat → Int64} {R9 : Nat → Nat → Option Nat} {r9 : Option Nat}, fr σ I J R t x1 x2 x3 = some (σ9, I9, J9, R9, r9) → Lex σ σ9) (h : fX11_copied_b115 fr t σ I J R x1 x2 x3 s0 = some (σ9, I9, J9, R9, r9)) : WX11_copied G l dn wn σ0 (σ9, I9, J9, D, R9) (some (vR r9)) (σ, I, J, D, R) 115 [(0, vR (some t)), (1, vR x1), (2, vI x2), (3, vI x3)] [vR s0] := by
  unfold fX11_copied_b115 at h
  refine r_astore (pc := 115) (L' := [(4, vR s0), (0, vR (some t)), (1, vR x1), (2, vI x2), (3, vI x3)]) dX11_copied_115 (by decide) rfl ?_
  refine r_iconst (pc := 117) dX11_copied_117 kc_iconst_0 ?_
  refine r_istore (pc := 118) (L' := [(5, vI (0 : Int32)), (4, vR s0), (0, vR (some t)), (1, vR x1), (2, vI x2), (3, vI x3)]) dX11_copied_118 (by decide) rfl ?_
  refine r_sub [2, 3, 4, 5, 1, 0] rfl ?_
  exact wX11_copied_l120 hdr ihn mfr _ _ _ _ _ _ _ _ _ _ h
def fX11_copied_b71 (fr : (Shp) → (Nat → Nat → Int32) → (Nat → Nat → Int64) → (Nat → Nat → Option Nat) → (Nat) → (Option Nat) → (Int32) → (Int32) → Option ((Shp) × (Nat → Nat → Int32) × (Nat → Nat → Int64) × (Nat → Nat → Option Nat) × (Option Nat)))  (σ : Shp) (I : Nat → Nat → Int32) (J : Nat → Nat → Int64) (R : Nat → Nat → Option Nat) (x1 : Option Nat) (s0 : Option Nat) : Option ((Shp) × (Nat → Nat → Int32) × (Nat → Nat → Int64) × (Nat → Nat → Option Nat) × (Option Nat)) :=
  (x1 : Option Nat).bind fun a49 =>
  if kdx σ a49 = 11 then
  ((R a49 1) : Option Nat).bind fun a51 =>
  if kdx σ a51 = 21 then
  (fX11_moveCells σ J R x1 (0 : Int32) s0 (0 : Int32) (Int32.ofNat (lnx σ a51))).bind fun J53 =>
  ((R a49 2) : Option Nat).bind fun a55 =>
  if kdx σ a55 = 26 then
  (fX11_movePlaces σ R (some a49) (0 : Int32) s0 (0 : Int32) (Int32.ofNat (lnx σ a55))).bind fun R57 =>
  some (σ, I, J53, R57, s0)
  else none
  else none
  else none
theorem mX11_copied_b71 {σ : Shp} {I : Nat → Nat → Int32} {J : Nat → Nat → Int64} {R : Nat → Nat → Option Nat} {σ9 : Shp} {I9 : Nat → Nat → Int32} {J9 : Nat → Nat → Int64} {R9 : Nat → Nat → Option Nat} {r9 : Option Nat} {x1 : Option Nat} {s0 : Option Nat} {fr : (Shp) → (Nat → Nat → Int32) → (Nat → Nat → Int64) → (Nat → Nat → Option Nat) → (Nat) → (Option Nat) → (Int32) → (Int32) → Option ((Shp) × (Nat → Nat → Int32) × (Nat → Nat → Int64) × (Nat → Nat → Option Nat) × (Option Nat))} (mfr : ∀ {σ : Shp} {I : Nat → Nat → Int32} {J : Nat → Nat → Int64} {R : Nat → Nat → Option Nat} {t : Nat} {x1 : Option Nat} {x2 : Int32} {x3 : Int32} {σ9 : Shp} {I9 : Nat → Nat → Int32} {J9 : Nat → Nat → Int64} {R9 : Nat → Nat → Option Nat} {r9 : Option Nat}, fr σ I J R t x1 x2 x3 = some (σ9, I9, J9, R9, r9) → Lex σ σ9) (h : fX11_copied_b71 fr σ I J R x1 s0 = some (σ9, I9, J9, R9, r9)) : Lex σ σ9 := by
  unfold fX11_copied_b71 at h
  obtain ⟨a49, ha49, h⟩ := ob h
  replace h := (gd h).2
  obtain ⟨a51, ha51, h⟩ := ob h
  replace h := (gd h).2
  obtain ⟨J53, hc54, h⟩ := ob h
  obtain ⟨a55, ha55, h⟩ := ob h
  replace h := (gd h).2
  obtain ⟨R57, hc58, h⟩ := ob h
  cases h
  exact ⟨Nat.le_refl _, Nat.le_refl _⟩
theorem wX11_copied_b71 {G : Gx} {l : Launch} {dn wn dr wr : Nat} {σ0 : Shp} {σ : Shp} {I : Nat → Nat → Int32} {J : Nat → Nat → Int64} {D : Nat → Nat → UInt64} {R : Nat → Nat → Option Nat} {σ9 : Shp} {I9 : Nat → Nat → Int32} {J9 : Nat → Nat → Int64} {R9 : Nat → Nat → Option Nat} {r9 : Option Nat} {x1 : Option Nat} {s0 : Option Nat} {fr : (Shp) → (Nat → Nat → Int32) → (Nat → Nat → Int64) → (Nat → Nat → Option Nat) → (Nat) → (Option Nat) → (Int32) → (Int32) → Option ((Shp) × (Nat → Nat → Int32) × (Nat → Nat → Int64) × (Nat → Nat → Option Nat) × (Option Nat))} (hdr : dr + 1 ≤ dn ∧ 25 + wr ≤ wn ∧ 3 ≤ dn ∧ 65 ≤ wn) (ihn : ∀ {σ : Shp} {I : Nat → Nat → Int32} {J : Nat → Nat → Int64} {D : Nat → Nat → UInt64} {R : Nat → Nat → Option Nat} {t : Nat} {x1 : Option Nat} {x2 : Int32} {x3 : Int32} {σ9 : Shp} {I9 : Nat → Nat → Int32} {J9 : Nat → Nat → Int64} {R9 : Nat → Nat → Option Nat} {r9 : Option Nat}, fr σ I J R t x1 x2 x3 = some (σ9, I9, J9, R9, r9) → Con G l yX11_copied cX11_copied 6 (some (.object "GlassHouse$Thing")) dr wr [vR (some t), vR x1, vI x2, vI x3] (σ, I, J, D, R) (σ9, I9, J9, D, R9) (some (vR r9))) (mfr : ∀ {σ : Shp} {I : Nat → Nat → Int32} {J : Nat → Nat → Int64} {R : Nat → Nat → Option Nat} {t : Nat} {x1 : Option Nat} {x2 : Int32} {x3 : Int32} {σ9 : Shp} {I9 : Nat → Nat → Int32} {J9 : Nat → Nat → Int64} {R9 : Nat → Nat → Option Nat} {r9 : Option Nat}, fr σ I J R t x1 x2 x3 = some (σ9, I9, J9, R9, r9) → Lex σ σ9) (h : fX11_copied_b71 fr σ I J R x1 s0 = some (σ9, I9, J9, R9, r9)) : WX11_copied G l dn wn σ0 (σ9, I9, J9, D, R9) (some (vR r9)) (σ, I, J, D, R) 71 [(1, vR x1)] [vR s0] := by
  unfold fX11_copied_b71 at h
  refine r_astore (pc := 71) (L' := [(4, vR s0), (1, vR x1)]) dX11_copied_71 (by decide) rfl ?_
  refine r_aload_n (pc := 73) dX11_copied_73 rfl 1 rfl ?_
  refine r_iconst (pc := 74) dX11_copied_74 kc_iconst_0 ?_
  refine r_aload (pc := 75) dX11_copied_75 0 rfl ?_
  refine r_iconst (pc := 77) dX11_copied_77 kc_iconst_0 ?_
  refine r_aload_n (pc := 78) dX11_copied_78 rfl 1 rfl ?_
  obtain ⟨a49, ha49, h⟩ := ob h
  refine r_ref0 ha49 ?_
  obtain ⟨g50, h⟩ := gd h
  obtain ⟨a51, ha51, h⟩ := ob h
  refine r_getS (pc := 79) dX11_copied_79 fgX11_134 rfl g50 ha51 ?_
  obtain ⟨g52, h⟩ := gd h
  refine r_alen (pc := 82) dX11_copied_82 g52 (by decide) ?_
  obtain ⟨J53, hc54, h⟩ := ob h
  refine r_callS0 (pc := 83) (av := [vR x1, vI (0 : Int32), vR s0, vI (0 : Int32), vI (Int32.ofNat (lnx σ a51))]) (S := []) dX11_copied_83 (kX11_moveCells hc54) mkX11_187 mwX11_moveCells rfl ⟨by simp only [rmx]; omega, by simp only [rmx]; omega⟩ (Nat.le_of_ble_eq_true rfl) ⟨Nat.le_refl _, Nat.le_refl _⟩ (fun b => b) ?_
  refine r_aload_n (pc := 86) dX11_copied_86 rfl 1 rfl ?_
  refine r_ref0 ha49 ?_
  refine r_iconst (pc := 87) dX11_copied_87 kc_iconst_0 ?_
  refine r_aload (pc := 88) dX11_copied_88 0 rfl ?_
  refine r_iconst (pc := 90) dX11_copied_90 kc_iconst_0 ?_
  refine r_aload_n (pc := 91) dX11_copied_91 rfl 1 rfl ?_
  refine r_ref0 ha49 ?_
  obtain ⟨a55, ha55, h⟩ := ob h
  refine r_getS (pc := 92) dX11_copied_92 fgX11_101 rfl g50 ha55 ?_
  obtain ⟨g56, h⟩ := gd h
  refine r_alen (pc := 95) dX11_copied_95 g56 (by decide) ?_
  obtain ⟨R57, hc58, h⟩ := ob h
  refine r_callS0 (pc := 96) (av := [vR (some a49), vI (0 : Int32), vR s0, vI (0 : Int32), vI (Int32.ofNat (lnx σ a55))]) (S := []) dX11_copied_96 (kX11_movePlaces hc58) mkX11_195 mwX11_movePlaces rfl ⟨by simp only [rmx]; omega, by simp only [rmx]; omega⟩ (Nat.le_of_ble_eq_true rfl) ⟨Nat.le_refl _, Nat.le_refl _⟩ (fun b => b) ?_
  refine r_aload (pc := 99) dX11_copied_99 0 rfl ?_
  cases h
  exact r_aret (Or.inl ⟨_, rfl⟩) dX11_copied_101
def fX11_copied_b40 (fr : (Shp) → (Nat → Nat → Int32) → (Nat → Nat → Int64) → (Nat → Nat → Option Nat) → (Nat) → (Option Nat) → (Int32) → (Int32) → Option ((Shp) × (Nat → Nat → Int32) × (Nat → Nat → Int64) × (Nat → Nat → Option Nat) × (Option Nat)))  (σ : Shp) (I : Nat → Nat → Int32) (J : Nat → Nat → Int64) (R : Nat → Nat → Option Nat) (x1 : Option Nat) (s0 : Option Nat) : Option ((Shp) × (Nat → Nat → Int32) × (Nat → Nat → Int64) × (Nat → Nat → Option Nat) × (Option Nat)) :=
  (x1 : Option Nat).bind fun a67 =>
  if kdx σ a67 = 11 then
  ((R a67 1) : Option Nat).bind fun a69 =>
  if kdx σ a69 = 21 then
  (fX11_moveCells σ J R x1 (0 : Int32) s0 (0 : Int32) (Int32.ofNat (lnx σ a69))).bind fun J71 =>
  some (σ, I, J71, R, s0)
  else none
  else none
theorem mX11_copied_b40 {σ : Shp} {I : Nat → Nat → Int32} {J : Nat → Nat → Int64} {R : Nat → Nat → Option Nat} {σ9 : Shp} {I9 : Nat → Nat → Int32} {J9 : Nat → Nat → Int64} {R9 : Nat → Nat → Option Nat} {r9 : Option Nat} {x1 : Option Nat} {s0 : Option Nat} {fr : (Shp) → (Nat → Nat → Int32) → (Nat → Nat → Int64) → (Nat → Nat → Option Nat) → (Nat) → (Option Nat) → (Int32) → (Int32) → Option ((Shp) × (Nat → Nat → Int32) × (Nat → Nat → Int64) × (Nat → Nat → Option Nat) × (Option Nat))} (mfr : ∀ {σ : Shp} {I : Nat → Nat → Int32} {J : Nat → Nat → Int64} {R : Nat → Nat → Option Nat} {t : Nat} {x1 : Option Nat} {x2 : Int32} {x3 : Int32} {σ9 : Shp} {I9 : Nat → Nat → Int32} {J9 : Nat → Nat → Int64} {R9 : Nat → Nat → Option Nat} {r9 : Option Nat}, fr σ I J R t x1 x2 x3 = some (σ9, I9, J9, R9, r9) → Lex σ σ9) (h : fX11_copied_b40 fr σ I J R x1 s0 = some (σ9, I9, J9, R9, r9)) : Lex σ σ9 := by
  unfold fX11_copied_b40 at h
  obtain ⟨a67, ha67, h⟩ := ob h
  replace h := (gd h).2
  obtain ⟨a69, ha69, h⟩ := ob h
  replace h := (gd h).2
  obtain ⟨J71, hc72, h⟩ := ob h
  cases h
  exact ⟨Nat.le_refl _, Nat.le_refl _⟩
theorem wX11_copied_b40 {G : Gx} {l : Launch} {dn wn dr wr : Nat} {σ0 : Shp} {σ : Shp} {I : Nat → Nat → Int32} {J : Nat → Nat → Int64} {D : Nat → Nat → UInt64} {R : Nat → Nat → Option Nat} {σ9 : Shp} {I9 : Nat → Nat → Int32} {J9 : Nat → Nat → Int64} {R9 : Nat → Nat → Option Nat} {r9 : Option Nat} {x1 : Option Nat} {s0 : Option Nat} {fr : (Shp) → (Nat → Nat → Int32) → (Nat → Nat → Int64) → (Nat → Nat → Option Nat) → (Nat) → (Option Nat) → (Int32) → (Int32) → Option ((Shp) × (Nat → Nat → Int32) × (Nat → Nat → Int64) × (Nat → Nat → Option Nat) × (Option Nat))} (hdr : dr + 1 ≤ dn ∧ 25 + wr ≤ wn ∧ 3 ≤ dn ∧ 65 ≤ wn) (ihn : ∀ {σ : Shp} {I : Nat → Nat → Int32} {J : Nat → Nat → Int64} {D : Nat → Nat → UInt64} {R : Nat → Nat → Option Nat} {t : Nat} {x1 : Option Nat} {x2 : Int32} {x3 : Int32} {σ9 : Shp} {I9 : Nat → Nat → Int32} {J9 : Nat → Nat → Int64} {R9 : Nat → Nat → Option Nat} {r9 : Option Nat}, fr σ I J R t x1 x2 x3 = some (σ9, I9, J9, R9, r9) → Con G l yX11_copied cX11_copied 6 (some (.object "GlassHouse$Thing")) dr wr [vR (some t), vR x1, vI x2, vI x3] (σ, I, J, D, R) (σ9, I9, J9, D, R9) (some (vR r9))) (mfr : ∀ {σ : Shp} {I : Nat → Nat → Int32} {J : Nat → Nat → Int64} {R : Nat → Nat → Option Nat} {t : Nat} {x1 : Option Nat} {x2 : Int32} {x3 : Int32} {σ9 : Shp} {I9 : Nat → Nat → Int32} {J9 : Nat → Nat → Int64} {R9 : Nat → Nat → Option Nat} {r9 : Option Nat}, fr σ I J R t x1 x2 x3 = some (σ9, I9, J9, R9, r9) → Lex σ σ9) (h : fX11_copied_b40 fr σ I J R x1 s0 = some (σ9, I9, J9, R9, r9)) : WX11_copied G l dn wn σ0 (σ9, I9, J9, D, R9) (some (vR r9)) (σ, I, J, D, R) 40 [(1, vR x1)] [vR s0] := by
  unfold fX11_copied_b40 at h
  refine r_astore (pc := 40) (L' := [(4, vR s0), (1, vR x1)]) dX11_copied_40 (by decide) rfl ?_
  refine r_aload_n (pc := 42) dX11_copied_42 rfl 1 rfl ?_
  refine r_iconst (pc := 43) dX11_copied_43 kc_iconst_0 ?_
  refine r_aload (pc := 44) dX11_copied_44 0 rfl ?_
  refine r_iconst (pc := 46) dX11_copied_46 kc_iconst_0 ?_
  refine r_aload_n (pc := 47) dX11_copied_47 rfl 1 rfl ?_
  obtain ⟨a67, ha67, h⟩ := ob h
  refine r_ref0 ha67 ?_
  obtain ⟨g68, h⟩ := gd h
  obtain ⟨a69, ha69, h⟩ := ob h
  refine r_getS (pc := 48) dX11_copied_48 fgX11_134 rfl g68 ha69 ?_
  obtain ⟨g70, h⟩ := gd h
  refine r_alen (pc := 51) dX11_copied_51 g70 (by decide) ?_
  obtain ⟨J71, hc72, h⟩ := ob h
  refine r_callS0 (pc := 52) (av := [vR x1, vI (0 : Int32), vR s0, vI (0 : Int32), vI (Int32.ofNat (lnx σ a69))]) (S := []) dX11_copied_52 (kX11_moveCells hc72) mkX11_187 mwX11_moveCells rfl ⟨by simp only [rmx]; omega, by simp only [rmx]; omega⟩ (Nat.le_of_ble_eq_true rfl) ⟨Nat.le_refl _, Nat.le_refl _⟩ (fun b => b) ?_
  refine r_aload (pc := 55) dX11_copied_55 0 rfl ?_
  cases h
  exact r_aret (Or.inl ⟨_, rfl⟩) dX11_copied_57
def fX11_copied : Nat → (Shp) → (Nat → Nat → Int32) → (Nat → Nat → Int64) → (Nat → Nat → Option Nat) → (Nat) → (Option Nat) → (Int32) → (Int32) → Option ((Shp) × (Nat → Nat → Int32) × (Nat → Nat → Int64) × (Nat → Nat → Option Nat) × (Option Nat))
  | 0, _, _, _, _, _, _, _, _ => none
  | n + 1, σ, I, J, R, t, x1, x2, x3 =>
    onl x1
      (
        some (σ, I, J, R, x1))
      (fun a1 =>
        if kdx σ a1 = 11 then
        if (I a1 0) = (16 : Int32) then
          some (σ, I, J, R, (some a1))
        else
          if x3 ≤ (3 : Int32) then
            (fX11_isRow σ I (some a1)).bind fun r3 =>
            if r3 = 0 then
              if (I a1 0) = (17 : Int32) then
                if kdx σ t = 12 then
                (fX11_newCard σ I R t).bind fun (σ44, I45, R46, r47) =>
                fX11_copied_b71 (fX11_copied n) σ44 I45 J R46 x1 r47
                else none
              else
                ((R a1 2) : Option Nat).bind fun a5 =>
                if kdx σ a5 = 26 then
                if kdx σ t = 12 then
                (fX11_newPlaces σ I R t (I a1 0) (Int32.ofNat (lnx σ a5))).bind fun (σ8, I9, R10, r11) =>
                fX11_copied_b115 (fX11_copied n) t σ8 I9 J R10 x1 x2 x3 r11
                else none
                else none
            else
              ((R a1 1) : Option Nat).bind fun a59 =>
              if kdx σ a59 = 21 then
              if kdx σ t = 12 then
              (fX11_newRow σ I R t (I a1 0) (Int32.ofNat (lnx σ a59))).bind fun (σ62, I63, R64, r65) =>
              fX11_copied_b40 (fX11_copied n) σ62 I63 J R64 x1 r65
              else none
              else none
          else
            some (σ, I, J, R, (some a1))
        else none)
theorem mX11_copied : ∀ (n : Nat) {σ : Shp} {I : Nat → Nat → Int32} {J : Nat → Nat → Int64} {R : Nat → Nat → Option Nat} {t : Nat} {x1 : Option Nat} {x2 : Int32} {x3 : Int32} {σ9 : Shp} {I9 : Nat → Nat → Int32} {J9 : Nat → Nat → Int64} {R9 : Nat → Nat → Option Nat} {r9 : Option Nat}, fX11_copied n σ I J R t x1 x2 x3 = some (σ9, I9, J9, R9, r9) → Lex σ σ9 := by
  intro n
  induction n with
  | zero =>
    intro σ I J R t x1 x2 x3 σ9 I9 J9 R9 r9 h
    have h : none = some _ := h
    cases h
  | succ n mfr =>
    intro σ I J R t x1 x2 x3 σ9 I9 J9 R9 r9 h
    rw [fX11_copied] at h
    rcases onl_c h with ⟨ea1, h⟩ | ⟨a1, ha1, h⟩
    · cases h
      exact ⟨Nat.le_refl _, Nat.le_refl _⟩
    · replace h := (gd h).2
      rcases itc h with ⟨c, h⟩ | ⟨c, h⟩
      · cases h
        exact ⟨Nat.le_refl _, Nat.le_refl _⟩
      · rcases itc h with ⟨c, h⟩ | ⟨c, h⟩
        · obtain ⟨r3, hc4, h⟩ := ob h
          rcases itc h with ⟨c, h⟩ | ⟨c, h⟩
          · rcases itc h with ⟨c, h⟩ | ⟨c, h⟩
            · replace h := (gd h).2
              obtain ⟨⟨σ44, I45, R46, r47⟩, hc48, h⟩ := ob h
              refine Lex.trans (mX11_newCard hc48) ?_
              exact mX11_copied_b71 mfr h
            · obtain ⟨a5, ha5, h⟩ := ob h
              replace h := (gd h).2
              replace h := (gd h).2
              obtain ⟨⟨σ8, I9, R10, r11⟩, hc12, h⟩ := ob h
              refine Lex.trans (mX11_newPlaces hc12) ?_
              exact mX11_copied_b115 mfr h
          · obtain ⟨a59, ha59, h⟩ := ob h
            replace h := (gd h).2
            replace h := (gd h).2
            obtain ⟨⟨σ62, I63, R64, r65⟩, hc66, h⟩ := ob h
            refine Lex.trans (mX11_newRow hc66) ?_
            exact mX11_copied_b40 mfr h
        · cases h
          exact ⟨Nat.le_refl _, Nat.le_refl _⟩
theorem kX11_copied {G : Gx} {l : Launch} : ∀ (n : Nat) {σ : Shp} {I : Nat → Nat → Int32} {J : Nat → Nat → Int64} {D : Nat → Nat → UInt64} {R : Nat → Nat → Option Nat} {t : Nat} {x1 : Option Nat} {x2 : Int32} {x3 : Int32} {σ9 : Shp} {I9 : Nat → Nat → Int32} {J9 : Nat → Nat → Int64} {R9 : Nat → Nat → Option Nat} {r9 : Option Nat}, fX11_copied n σ I J R t x1 x2 x3 = some (σ9, I9, J9, R9, r9) → Con G l yX11_copied cX11_copied 6 (some (.object "GlassHouse$Thing")) (3 + n) (65 + 25 * n) [vR (some t), vR x1, vI x2, vI x3] (σ, I, J, D, R) (σ9, I9, J9, D, R9) (some (vR r9)) := by
  intro n
  induction n with
  | zero =>
    intro σ I J D R t x1 x2 x3 σ9 I9 J9 R9 r9 h
    have h : none = some _ := h
    cases h
  | succ n ihn =>
    intro σ I J D R t x1 x2 x3 σ9 I9 J9 R9 r9 h
    rw [fX11_copied] at h
    have hdr : 3 + n + 1 ≤ 3 + (n + 1) ∧ 25 + (65 + 25 * n) ≤ 65 + 25 * (n + 1) ∧ 3 ≤ 3 + (n + 1) ∧ 65 ≤ 65 + 25 * (n + 1) := by omega
    have mfr := @mX11_copied n
    refine Con.mk (by decide +kernel) rfl (Nat.le_of_ble_eq_true rfl) ?_
    show WX11_copied G l (3 + (n + 1)) (65 + 25 * (n + 1)) σ (σ9, I9, J9, D, R9) (some (vR r9)) (σ, I, J, D, R) 0 _ []
    refine r_aload_n (pc := 0) dX11_copied_0 rfl 1 rfl ?_
    rcases onl_c h with ⟨ea1, h⟩ | ⟨a1, ha1, h⟩
    · refine r_ref0n ea1 ?_
      refine r_ifnull_n (pc := 1) (tgt := 18) dX11_copied_1 rfl ?_
      refine r_aload_n (pc := 18) dX11_copied_18 rfl 1 rfl ?_
      cases h
      exact r_aret (Or.inl ⟨_, rfl⟩) dX11_copied_19
    · refine r_ref0 ha1 ?_
      refine r_ifnull_s (pc := 1) dX11_copied_1 ?_
      refine r_aload_n (pc := 4) dX11_copied_4 rfl 1 rfl ?_
      refine r_ref0 ha1 ?_
      obtain ⟨g2, h⟩ := gd h
      refine r_getI (pc := 5) dX11_copied_5 fgX11_113 rfl g2 ?_
      refine r_bipush (pc := 8) dX11_copied_8 kc_bipush_16 ?_
      refine r_icmp_eq (pc := 10) (tgt := 18) dX11_copied_10 rfl (fun c => ?_) (fun c => ?_)
      · have h := it h c
        refine r_aload_n (pc := 18) dX11_copied_18 rfl 1 rfl ?_
        refine r_ref0 ha1 ?_
        cases h
        exact r_aret (Or.inl ⟨_, rfl⟩) dX11_copied_19
      · have h := ie h c
        refine r_iload_n (pc := 13) dX11_copied_13 rfl 3 rfl ?_
        refine r_iconst (pc := 14) dX11_copied_14 kc_iconst_3 ?_
        refine r_icmp_le (pc := 15) (tgt := 20) dX11_copied_15 rfl (fun c => ?_) (fun c => ?_)
        · have h := it h c
          refine r_aload_n (pc := 20) dX11_copied_20 rfl 1 rfl ?_
          refine r_ref0 ha1 ?_
          obtain ⟨r3, hc4, h⟩ := ob h
          refine r_callS1 (pc := 21) (av := [vR (some a1)]) (S := []) dX11_copied_21 (kX11_isRow hc4) mkX11_183 mwX11_isRow rfl ⟨by simp only [rmx]; omega, by simp only [rmx]; omega⟩ (Nat.le_of_ble_eq_true rfl) ⟨Nat.le_refl _, Nat.le_refl _⟩ (fun b => b) ?_
          refine r_if_eq (pc := 24) (tgt := 58) dX11_copied_24 rfl (fun c => ?_) (fun c => ?_)
          · have h := it h c
            refine r_aload_n (pc := 58) dX11_copied_58 rfl 1 rfl ?_
            refine r_ref0 ha1 ?_
            refine r_getI (pc := 59) dX11_copied_59 fgX11_113 rfl g2 ?_
            refine r_bipush (pc := 62) dX11_copied_62 kc_bipush_17 ?_
            refine r_icmp_ne (pc := 64) (tgt := 102) dX11_copied_64 rfl (fun c => ?_) (fun c => ?_)
            · have h := ie h c
              refine r_aload_n (pc := 102) dX11_copied_102 rfl 0 rfl ?_
              refine r_aload_n (pc := 103) dX11_copied_103 rfl 1 rfl ?_
              refine r_ref0 ha1 ?_
              refine r_getI (pc := 104) dX11_copied_104 fgX11_113 rfl g2 ?_
              refine r_aload_n (pc := 107) dX11_copied_107 rfl 1 rfl ?_
              refine r_ref0 ha1 ?_
              obtain ⟨a5, ha5, h⟩ := ob h
              refine r_getS (pc := 108) dX11_copied_108 fgX11_101 rfl g2 ha5 ?_
              obtain ⟨g6, h⟩ := gd h
              refine r_alen (pc := 111) dX11_copied_111 g6 (by decide) ?_
              obtain ⟨g7, h⟩ := gd h
              obtain ⟨⟨σ8, I9, R10, r11⟩, hc12, h⟩ := ob h
              refine r_callV1 (pc := 112) (av := [vI (I a1 0), vI (Int32.ofNat (lnx σ a5))]) (S := []) dX11_copied_112 (kX11_newPlaces hc12) g7 rfl mkX11_98 mwX11_newPlaces rfl ⟨by simp only [rmx]; omega, by simp only [rmx]; omega⟩ (Nat.le_of_ble_eq_true rfl) (mX11_newPlaces hc12) (bdx_le (mX11_newPlaces hc12) (mX11_copied_b115 mfr h)) ?_
              refine r_sub [0, 1, 2, 3] rfl ?_
              exact wX11_copied_b115 hdr ihn mfr h
            · have h := it h c
              refine r_aload_n (pc := 67) dX11_copied_67 rfl 0 rfl ?_
              obtain ⟨g43, h⟩ := gd h
              obtain ⟨⟨σ44, I45, R46, r47⟩, hc48, h⟩ := ob h
              refine r_callV1 (pc := 68) (av := []) (S := []) dX11_copied_68 (kX11_newCard hc48) g43 rfl mkX11_263 mwX11_newCard rfl ⟨by simp only [rmx]; omega, by simp only [rmx]; omega⟩ (Nat.le_of_ble_eq_true rfl) (mX11_newCard hc48) (bdx_le (mX11_newCard hc48) (mX11_copied_b71 mfr h)) ?_
              refine r_sub [1] rfl ?_
              exact wX11_copied_b71 hdr ihn mfr h
          · have h := ie h c
            refine r_aload_n (pc := 27) dX11_copied_27 rfl 0 rfl ?_
            refine r_aload_n (pc := 28) dX11_copied_28 rfl 1 rfl ?_
            refine r_ref0 ha1 ?_
            refine r_getI (pc := 29) dX11_copied_29 fgX11_113 rfl g2 ?_
            refine r_aload_n (pc := 32) dX11_copied_32 rfl 1 rfl ?_
            refine r_ref0 ha1 ?_
            obtain ⟨a59, ha59, h⟩ := ob h
            refine r_getS (pc := 33) dX11_copied_33 fgX11_134 rfl g2 ha59 ?_
            obtain ⟨g60, h⟩ := gd h
            refine r_alen (pc := 36) dX11_copied_36 g60 (by decide) ?_
            obtain ⟨g61, h⟩ := gd h
            obtain ⟨⟨σ62, I63, R64, r65⟩, hc66, h⟩ := ob h
            refine r_callV1 (pc := 37) (av := [vI (I a1 0), vI (Int32.ofNat (lnx σ a59))]) (S := []) dX11_copied_37 (kX11_newRow hc66) g61 rfl mkX11_91 mwX11_newRow rfl ⟨by simp only [rmx]; omega, by simp only [rmx]; omega⟩ (Nat.le_of_ble_eq_true rfl) (mX11_newRow hc66) (bdx_le (mX11_newRow hc66) (mX11_copied_b40 mfr h)) ?_
            refine r_sub [1] rfl ?_
            exact wX11_copied_b40 hdr ihn mfr h
        · have h := ie h c
          refine r_aload_n (pc := 18) dX11_copied_18 rfl 1 rfl ?_
          refine r_ref0 ha1 ?_
          cases h
          exact r_aret (Or.inl ⟨_, rfl⟩) dX11_copied_19
abbrev WX11_copy (G : Gx) (l : Launch) (σ0 : Shp) (X1 : Stt) (rv : Option SV) : Stt → Nat → List (Nat × SV) → List SV → Prop := Wm G l yX11_copy cX11_copy 4 (some .int) (fun _ => True) (rmx 12 290 σ0 X1.1) σ0 (Qmx G σ0 X1 rv)
def fX11_copy_b44  (σ : Shp) (I : Nat → Nat → Int32) (J : Nat → Nat → Int64) (R : Nat → Nat → Option Nat) (s0 : Nat) (s1 : Int32) (s2 : Option Nat) : Option ((Shp) × (Nat → Nat → Int32) × (Nat → Nat → Int64) × (Nat → Nat → Option Nat) × (Int32)) :=
  if kdx σ s0 = 26 then
  if ¬ (s1 < 0 ∨ lnx σ s0 ≤ Int32.toNatClampNeg s1) then
  if okR σ 11 s2 = true then
  let R16 := u2 R s0 (Int32.toNatClampNeg s1) s2
  some (σ, I, J, R16, (1 : Int32))
  else none
  else none
  else none
theorem mX11_copy_b44 {σ : Shp} {I : Nat → Nat → Int32} {J : Nat → Nat → Int64} {R : Nat → Nat → Option Nat} {σ9 : Shp} {I9 : Nat → Nat → Int32} {J9 : Nat → Nat → Int64} {R9 : Nat → Nat → Option Nat} {r9 : Int32} {s0 : Nat} {s1 : Int32} {s2 : Option Nat} (h : fX11_copy_b44 σ I J R s0 s1 s2 = some (σ9, I9, J9, R9, r9)) : Lex σ σ9 := by
  unfold fX11_copy_b44 at h
  replace h := (gd h).2
  replace h := (gd h).2
  replace h := (gd h).2
  cases h
  exact ⟨Nat.le_refl _, Nat.le_refl _⟩
theorem wX11_copy_b44 {G : Gx} {l : Launch} {σ0 : Shp} {σ : Shp} {I : Nat → Nat → Int32} {J : Nat → Nat → Int64} {D : Nat → Nat → UInt64} {R : Nat → Nat → Option Nat} {σ9 : Shp} {I9 : Nat → Nat → Int32} {J9 : Nat → Nat → Int64} {R9 : Nat → Nat → Option Nat} {r9 : Int32} {s0 : Nat} {s1 : Int32} {s2 : Option Nat} (h : fX11_copy_b44 σ I J R s0 s1 s2 = some (σ9, I9, J9, R9, r9)) : WX11_copy G l σ0 (σ9, I9, J9, D, R9) (some (vI r9)) (σ, I, J, D, R) 44 [] [vR s2, vI s1, vR (some s0)] := by
  unfold fX11_copy_b44 at h
  obtain ⟨g13, h⟩ := gd h
  obtain ⟨g14, h⟩ := gd h
  obtain ⟨g15, h⟩ := gd h
  refine r_aastore (c := 10) (pc := 44) dX11_copy_44 g13 (by decide) g14 g15 ?_
  refine r_iconst (pc := 45) dX11_copy_45 kc_iconst_1 ?_
  cases h
  exact r_iret dX11_copy_46
def fX11_copy (σ : Shp) (I : Nat → Nat → Int32) (J : Nat → Nat → Int64) (R : Nat → Nat → Option Nat) (t : Nat) (x1 : Int32) (x2 : Int32) (x3 : Int32) : Option ((Shp) × (Nat → Nat → Int32) × (Nat → Nat → Int64) × (Nat → Nat → Option Nat) × (Int32)) :=
  if (fX11_isBin x1) = 0 then
    some (σ, I, J, R, (-2 : Int32))
  else
    if (fX11_isBin x2) = 0 then
      some (σ, I, J, R, (-2 : Int32))
    else
      if kdx σ t = 12 then
      (fX11_isFull σ I t).bind fun r2 =>
      if r2 = 0 then
        ((R t 1) : Option Nat).bind fun a4 =>
        if kdx σ a4 = 26 then
        if ¬ (x2 < 0 ∨ lnx σ a4 ≤ Int32.toNatClampNeg x2) then
        (fX11_copied 8 σ I J R t (R a4 (Int32.toNatClampNeg x2)) x3 (0 : Int32)).bind fun (σ7, I8, J9, R10, r11) =>
        fX11_copy_b44 σ7 I8 J9 R10 a4 x1 r11
        else none
        else none
      else
        some (σ, I, J, R, (-4 : Int32))
      else none
theorem mX11_copy {σ : Shp} {I : Nat → Nat → Int32} {J : Nat → Nat → Int64} {R : Nat → Nat → Option Nat} {t : Nat} {x1 : Int32} {x2 : Int32} {x3 : Int32} {σ9 : Shp} {I9 : Nat → Nat → Int32} {J9 : Nat → Nat → Int64} {R9 : Nat → Nat → Option Nat} {r9 : Int32} (h : fX11_copy σ I J R t x1 x2 x3 = some (σ9, I9, J9, R9, r9)) : Lex σ σ9 := by
  unfold fX11_copy at h
  rcases itc h with ⟨c, h⟩ | ⟨c, h⟩
  · cases h
    exact ⟨Nat.le_refl _, Nat.le_refl _⟩
  · rcases itc h with ⟨c, h⟩ | ⟨c, h⟩
    · cases h
      exact ⟨Nat.le_refl _, Nat.le_refl _⟩
    · replace h := (gd h).2
      obtain ⟨r2, hc3, h⟩ := ob h
      rcases itc h with ⟨c, h⟩ | ⟨c, h⟩
      · obtain ⟨a4, ha4, h⟩ := ob h
        replace h := (gd h).2
        replace h := (gd h).2
        obtain ⟨⟨σ7, I8, J9, R10, r11⟩, hc12, h⟩ := ob h
        refine Lex.trans (mX11_copied _ hc12) ?_
        exact mX11_copy_b44 h
      · cases h
        exact ⟨Nat.le_refl _, Nat.le_refl _⟩
theorem kX11_copy {G : Gx} {l : Launch} {σ : Shp} {I : Nat → Nat → Int32} {J : Nat → Nat → Int64} {D : Nat → Nat → UInt64} {R : Nat → Nat → Option Nat} {t : Nat} {x1 : Int32} {x2 : Int32} {x3 : Int32} {σ9 : Shp} {I9 : Nat → Nat → Int32} {J9 : Nat → Nat → Int64} {R9 : Nat → Nat → Option Nat} {r9 : Int32} (h : fX11_copy σ I J R t x1 x2 x3 = some (σ9, I9, J9, R9, r9)) : Con G l yX11_copy cX11_copy 4 (some .int) 12 290 [vR (some t), vI x1, vI x2, vI x3] (σ, I, J, D, R) (σ9, I9, J9, D, R9) (some (vI r9)) := by
  unfold fX11_copy at h
  refine Con.mk (by decide +kernel) rfl (Nat.le_of_ble_eq_true rfl) ?_
  show WX11_copy G l σ (σ9, I9, J9, D, R9) (some (vI r9)) (σ, I, J, D, R) 0 _ []
  refine r_iload_n (pc := 0) dX11_copy_0 rfl 1 rfl ?_
  refine r_callS1 (pc := 1) (av := [vI x1]) (S := []) dX11_copy_1 (kX11_isBin rfl) mkX11_76 mwX11_isBin rfl ⟨Nat.le_of_ble_eq_true rfl, Nat.le_of_ble_eq_true rfl⟩ (Nat.le_of_ble_eq_true rfl) ⟨Nat.le_refl _, Nat.le_refl _⟩ (fun b => b) ?_
  refine r_if_eq (pc := 4) (tgt := 14) dX11_copy_4 rfl (fun c => ?_) (fun c => ?_)
  · have h := it h c
    refine r_bipush (pc := 14) dX11_copy_14 kc_bipush_m2 ?_
    cases h
    exact r_iret dX11_copy_16
  · have h := ie h c
    refine r_iload_n (pc := 7) dX11_copy_7 rfl 2 rfl ?_
    refine r_callS1 (pc := 8) (av := [vI x2]) (S := []) dX11_copy_8 (kX11_isBin rfl) mkX11_76 mwX11_isBin rfl ⟨Nat.le_of_ble_eq_true rfl, Nat.le_of_ble_eq_true rfl⟩ (Nat.le_of_ble_eq_true rfl) ⟨Nat.le_refl _, Nat.le_refl _⟩ (fun b => b) ?_
    refine r_ifne (pc := 11) (tgt := 17) dX11_copy_11 rfl (fun c => ?_) (fun c => ?_)
    · have h := ie h c
      refine r_aload_n (pc := 17) dX11_copy_17 rfl 0 rfl ?_
      obtain ⟨g1, h⟩ := gd h
      obtain ⟨r2, hc3, h⟩ := ob h
      refine r_callV1 (pc := 18) (av := []) (S := []) dX11_copy_18 (kX11_isFull hc3) g1 rfl mkX11_83 mwX11_isFull rfl ⟨Nat.le_of_ble_eq_true rfl, Nat.le_of_ble_eq_true rfl⟩ (Nat.le_of_ble_eq_true rfl) ⟨Nat.le_refl _, Nat.le_refl _⟩ (fun b => b) ?_
      refine r_if_eq (pc := 21) (tgt := 27) dX11_copy_21 rfl (fun c => ?_) (fun c => ?_)
      · have h := it h c
        refine r_aload_n (pc := 27) dX11_copy_27 rfl 0 rfl ?_
        obtain ⟨a4, ha4, h⟩ := ob h
        refine r_getS (pc := 28) dX11_copy_28 fgX11_20 rfl g1 ha4 ?_
        refine r_iload_n (pc := 31) dX11_copy_31 rfl 1 rfl ?_
        refine r_aload_n (pc := 32) dX11_copy_32 rfl 0 rfl ?_
        refine r_aload_n (pc := 33) dX11_copy_33 rfl 0 rfl ?_
        refine r_getS (pc := 34) dX11_copy_34 fgX11_20 rfl g1 ha4 ?_
        refine r_iload_n (pc := 37) dX11_copy_37 rfl 2 rfl ?_
        obtain ⟨g5, h⟩ := gd h
        obtain ⟨g6, h⟩ := gd h
        refine r_aaload (pc := 38) dX11_copy_38 g5 (by decide) g6 ?_
        refine r_iload_n (pc := 39) dX11_copy_39 rfl 3 rfl ?_
        refine r_iconst (pc := 40) dX11_copy_40 kc_iconst_0 ?_
        obtain ⟨⟨σ7, I8, J9, R10, r11⟩, hc12, h⟩ := ob h
        refine r_callV1 (pc := 41) (av := [vR (R a4 (Int32.toNatClampNeg x2)), vI x3, vI (0 : Int32)]) (S := [vI x1, vR (some a4)]) dX11_copy_41 (kX11_copied _ hc12) g1 rfl mkX11_198 mwX11_copied rfl ⟨Nat.le_of_ble_eq_true rfl, Nat.le_of_ble_eq_true rfl⟩ (Nat.le_of_ble_eq_true rfl) (mX11_copied _ hc12) (bdx_le (mX11_copied _ hc12) (mX11_copy_b44 h)) ?_
        refine r_sub [] rfl ?_
        exact wX11_copy_b44 h
      · have h := ie h c
        refine r_bipush (pc := 24) dX11_copy_24 kc_bipush_m4 ?_
        cases h
        exact r_iret dX11_copy_26
    · have h := it h c
      refine r_bipush (pc := 14) dX11_copy_14 kc_bipush_m2 ?_
      cases h
      exact r_iret dX11_copy_16
abbrev WX11_equalCells (G : Gx) (l : Launch) (σ0 : Shp) (X1 : Stt) (rv : Option SV) : Stt → Nat → List (Nat × SV) → List SV → Prop := Wm G l yX11_equalCells cX11_equalCells 3 (some .boolean) (fun _ => True) (rmx 0 0 σ0 X1.1) σ0 (Qmx G σ0 X1 rv)
def fX11_equalCells_l17  (σ : Shp) (J : Nat → Nat → Int64) (R : Nat → Nat → Option Nat) : Nat → (Option Nat) → (Option Nat) → (Int32) → Option ((Int32))
  | 0, _, _, _ => none
  | n + 1, x0, x1, x2 =>
    (x0 : Option Nat).bind fun a9 =>
    if kdx σ a9 = 11 then
    ((R a9 1) : Option Nat).bind fun a11 =>
    if kdx σ a11 = 21 then
    if (Int32.ofNat (lnx σ a11)) ≤ x2 then
      some (1 : Int32)
    else
      if ¬ (x2 < 0 ∨ lnx σ a11 ≤ Int32.toNatClampNeg x2) then
      (x1 : Option Nat).bind fun a14 =>
      if kdx σ a14 = 11 then
      ((R a14 1) : Option Nat).bind fun a16 =>
      if kdx σ a16 = 21 then
      if ¬ (x2 < 0 ∨ lnx σ a16 ≤ Int32.toNatClampNeg x2) then
      if (J a11 (Int32.toNatClampNeg x2)) = (J a16 (Int32.toNatClampNeg x2)) then
        let v19 := x2 + (1 : Int32)
        fX11_equalCells_l17 σ J R n x0 x1 v19
      else
        some (0 : Int32)
      else none
      else none
      else none
      else none
    else none
    else none
theorem wX11_equalCells_l17 {G : Gx} {l : Launch} {σ : Shp} {I : Nat → Nat → Int32} {J : Nat → Nat → Int64} {D : Nat → Nat → UInt64} {R : Nat → Nat → Option Nat} {r9 : Int32} : ∀ (n : Nat) (x0 : Option Nat) (x1 : Option Nat) (x2 : Int32), fX11_equalCells_l17 σ J R n x0 x1 x2 = some r9 → WX11_equalCells G l σ (σ, I, J, D, R) (some (vI r9)) (σ, I, J, D, R) 17 [(0, vR x0), (1, vR x1), (2, vI x2)] [] := by
  intro n
  induction n with
  | zero =>
    intro x0 x1 x2 h
    have h : none = some _ := h
    cases h
  | succ n ih =>
    intro x0 x1 x2 h
    rw [fX11_equalCells_l17] at h
    refine r_iload_n (pc := 17) dX11_equalCells_17 rfl 2 rfl ?_
    refine r_aload_n (pc := 18) dX11_equalCells_18 rfl 0 rfl ?_
    obtain ⟨a9, ha9, h⟩ := ob h
    refine r_ref0 ha9 ?_
    obtain ⟨g10, h⟩ := gd h
    obtain ⟨a11, ha11, h⟩ := ob h
    refine r_getS (pc := 19) dX11_equalCells_19 fgX11_134 rfl g10 ha11 ?_
    obtain ⟨g12, h⟩ := gd h
    refine r_alen (pc := 22) dX11_equalCells_22 g12 (by decide) ?_
    refine r_icmp_ge (pc := 23) (tgt := 50) dX11_equalCells_23 rfl (fun c => ?_) (fun c => ?_)
    · have h := it h c
      refine r_iconst (pc := 50) dX11_equalCells_50 kc_iconst_1 ?_
      cases h
      exact r_zret dX11_equalCells_51 (Or.inr rfl)
    · have h := ie h c
      refine r_aload_n (pc := 26) dX11_equalCells_26 rfl 0 rfl ?_
      refine r_ref0 ha9 ?_
      refine r_getS (pc := 27) dX11_equalCells_27 fgX11_134 rfl g10 ha11 ?_
      refine r_iload_n (pc := 30) dX11_equalCells_30 rfl 2 rfl ?_
      obtain ⟨g13, h⟩ := gd h
      refine r_laload (pc := 31) dX11_equalCells_31 g12 g13 ?_
      refine r_aload_n (pc := 32) dX11_equalCells_32 rfl 1 rfl ?_
      obtain ⟨a14, ha14, h⟩ := ob h
      refine r_ref0 ha14 ?_
      obtain ⟨g15, h⟩ := gd h
      obtain ⟨a16, ha16, h⟩ := ob h
      refine r_getS (pc := 33) dX11_equalCells_33 fgX11_134 rfl g15 ha16 ?_
      refine r_iload_n (pc := 36) dX11_equalCells_36 rfl 2 rfl ?_
      obtain ⟨g17, h⟩ := gd h
      obtain ⟨g18, h⟩ := gd h
      refine r_laload (pc := 37) dX11_equalCells_37 g17 g18 ?_
      refine r_lcmp (pc := 38) dX11_equalCells_38 ?_
      refine r_if_eq (pc := 39) (tgt := 44) dX11_equalCells_39 rfl (fun c => ?_) (fun c => ?_)
      · have h := it h (lgc_eq.mp c)
        refine r_iinc (pc := 44) (v := (x2 + (1 : Int32))) (L' := [(2, vI (x2 + (1 : Int32))), (0, vR x0), (1, vR x1)]) dX11_equalCells_44 2 rfl (kc_inc_1 _) (by decide) rfl ?_
        refine r_goto (pc := 47) (tgt := 17) dX11_equalCells_47 rfl ?_
        refine r_sub [1, 2, 0] rfl ?_
        exact ih _ _ _ h
      · have h := ie h (fun q => c (lgc_eq.mpr q))
        refine r_iconst (pc := 42) dX11_equalCells_42 kc_iconst_0 ?_
        cases h
        exact r_zret dX11_equalCells_43 (Or.inl rfl)
def fX11_equalCells (σ : Shp) (J : Nat → Nat → Int64) (R : Nat → Nat → Option Nat) (x0 : Option Nat) (x1 : Option Nat) : Option ((Int32)) :=
  (x0 : Option Nat).bind fun a1 =>
  if kdx σ a1 = 11 then
  ((R a1 1) : Option Nat).bind fun a3 =>
  if kdx σ a3 = 21 then
  (x1 : Option Nat).bind fun a5 =>
  if kdx σ a5 = 11 then
  ((R a5 1) : Option Nat).bind fun a7 =>
  if kdx σ a7 = 21 then
  if (Int32.ofNat (lnx σ a3)) = (Int32.ofNat (lnx σ a7)) then
    fX11_equalCells_l17 σ J R FUx x0 x1 (0 : Int32)
  else
    some (0 : Int32)
  else none
  else none
  else none
  else none
theorem kX11_equalCells {G : Gx} {l : Launch} {σ : Shp} {I : Nat → Nat → Int32} {J : Nat → Nat → Int64} {D : Nat → Nat → UInt64} {R : Nat → Nat → Option Nat} {x0 : Option Nat} {x1 : Option Nat} {r9 : Int32} (h : fX11_equalCells σ J R x0 x1 = some r9) : Con G l yX11_equalCells cX11_equalCells 3 (some .boolean) 0 0 [vR x0, vR x1] (σ, I, J, D, R) (σ, I, J, D, R) (some (vI r9)) := by
  unfold fX11_equalCells at h
  refine Con.mk (by decide +kernel) rfl (Nat.le_of_ble_eq_true rfl) ?_
  show WX11_equalCells G l σ (σ, I, J, D, R) (some (vI r9)) (σ, I, J, D, R) 0 _ []
  refine r_aload_n (pc := 0) dX11_equalCells_0 rfl 0 rfl ?_
  obtain ⟨a1, ha1, h⟩ := ob h
  refine r_ref0 ha1 ?_
  obtain ⟨g2, h⟩ := gd h
  obtain ⟨a3, ha3, h⟩ := ob h
  refine r_getS (pc := 1) dX11_equalCells_1 fgX11_134 rfl g2 ha3 ?_
  obtain ⟨g4, h⟩ := gd h
  refine r_alen (pc := 4) dX11_equalCells_4 g4 (by decide) ?_
  refine r_aload_n (pc := 5) dX11_equalCells_5 rfl 1 rfl ?_
  obtain ⟨a5, ha5, h⟩ := ob h
  refine r_ref0 ha5 ?_
  obtain ⟨g6, h⟩ := gd h
  obtain ⟨a7, ha7, h⟩ := ob h
  refine r_getS (pc := 6) dX11_equalCells_6 fgX11_134 rfl g6 ha7 ?_
  obtain ⟨g8, h⟩ := gd h
  refine r_alen (pc := 9) dX11_equalCells_9 g8 (by decide) ?_
  refine r_icmp_eq (pc := 10) (tgt := 15) dX11_equalCells_10 rfl (fun c => ?_) (fun c => ?_)
  · have h := it h c
    refine r_iconst (pc := 15) dX11_equalCells_15 kc_iconst_0 ?_
    refine r_istore_n (pc := 16) (L' := [(2, vI (0 : Int32)), (0, vR x0), (1, vR x1)]) dX11_equalCells_16 rfl (by decide) rfl ?_
    refine r_sub [1, 2, 0] rfl ?_
    exact wX11_equalCells_l17 _ _ _ _ h
  · have h := ie h c
    refine r_iconst (pc := 13) dX11_equalCells_13 kc_iconst_0 ?_
    cases h
    exact r_zret dX11_equalCells_14 (Or.inl rfl)
abbrev WX11_equalThings (G : Gx) (l : Launch) (dn wn : Nat) (σ0 : Shp) (X1 : Stt) (rv : Option SV) : Stt → Nat → List (Nat × SV) → List SV → Prop := Wm G l yX11_equalThings cX11_equalThings 5 (some .boolean) (fun _ => True) (rmx dn wn σ0 X1.1) σ0 (Qmx G σ0 X1 rv)
def fX11_equalThings_l67 (fr : (Shp) → (Nat → Nat → Int32) → (Nat → Nat → Int64) → (Nat → Nat → Option Nat) → (Option Nat) → (Option Nat) → (Int32) → Option ((Int32)))  (σ : Shp) (I : Nat → Nat → Int32) (J : Nat → Nat → Int64) (R : Nat → Nat → Option Nat) : Nat → (Option Nat) → (Option Nat) → (Int32) → (Int32) → Option ((Int32))
  | 0, _, _, _, _ => none
  | n + 1, x0, x1, x2, x3 =>
    (x0 : Option Nat).bind fun a13 =>
    if kdx σ a13 = 11 then
    ((R a13 2) : Option Nat).bind fun a15 =>
    if kdx σ a15 = 26 then
    if (Int32.ofNat (lnx σ a15)) ≤ x3 then
      some (1 : Int32)
    else
      if (I a13 0) = (17 : Int32) then
        if ¬ (x3 < 0 ∨ lnx σ a15 ≤ Int32.toNatClampNeg x3) then
        (x1 : Option Nat).bind fun a27 =>
        if kdx σ a27 = 11 then
        ((R a27 2) : Option Nat).bind fun a29 =>
        if kdx σ a29 = 26 then
        if ¬ (x3 < 0 ∨ lnx σ a29 ≤ Int32.toNatClampNeg x3) then
        if okR σ 11 (R a15 (Int32.toNatClampNeg x3)) = true then
        if okR σ 11 (R a29 (Int32.toNatClampNeg x3)) = true then
        if (R a15 (Int32.toNatClampNeg x3)) = (R a29 (Int32.toNatClampNeg x3)) then
          if (1 : Int32) = 0 then
            some (0 : Int32)
          else
            let v35 := x3 + (1 : Int32)
            fX11_equalThings_l67 fr σ I J R n x0 x1 x2 v35
        else
          if (0 : Int32) = 0 then
            some (0 : Int32)
          else
            let v34 := x3 + (1 : Int32)
            fX11_equalThings_l67 fr σ I J R n x0 x1 x2 v34
        else none
        else none
        else none
        else none
        else none
        else none
      else
        if ¬ (x3 < 0 ∨ lnx σ a15 ≤ Int32.toNatClampNeg x3) then
        (x1 : Option Nat).bind fun a18 =>
        if kdx σ a18 = 11 then
        ((R a18 2) : Option Nat).bind fun a20 =>
        if kdx σ a20 = 26 then
        if ¬ (x3 < 0 ∨ lnx σ a20 ≤ Int32.toNatClampNeg x3) then
        (fr σ I J R (R a15 (Int32.toNatClampNeg x3)) (R a20 (Int32.toNatClampNeg x3)) (x2 + (1 : Int32))).bind fun r23 =>
        if r23 = 0 then
          some (0 : Int32)
        else
          let v25 := x3 + (1 : Int32)
          fX11_equalThings_l67 fr σ I J R n x0 x1 x2 v25
        else none
        else none
        else none
        else none
    else none
    else none
theorem wX11_equalThings_l67 {G : Gx} {l : Launch} {dn wn dr wr : Nat} {σ : Shp} {I : Nat → Nat → Int32} {J : Nat → Nat → Int64} {D : Nat → Nat → UInt64} {R : Nat → Nat → Option Nat} {r9 : Int32} {fr : (Shp) → (Nat → Nat → Int32) → (Nat → Nat → Int64) → (Nat → Nat → Option Nat) → (Option Nat) → (Option Nat) → (Int32) → Option ((Int32))} (hdr : dr + 1 ≤ dn ∧ 24 + wr ≤ wn ∧ 1 ≤ dn ∧ 22 ≤ wn) (ihn : ∀ {σ : Shp} {I : Nat → Nat → Int32} {J : Nat → Nat → Int64} {D : Nat → Nat → UInt64} {R : Nat → Nat → Option Nat} {x0 : Option Nat} {x1 : Option Nat} {x2 : Int32} {r9 : Int32}, fr σ I J R x0 x1 x2 = some r9 → Con G l yX11_equalThings cX11_equalThings 5 (some .boolean) dr wr [vR x0, vR x1, vI x2] (σ, I, J, D, R) (σ, I, J, D, R) (some (vI r9))) : ∀ (n : Nat) (x0 : Option Nat) (x1 : Option Nat) (x2 : Int32) (x3 : Int32), fX11_equalThings_l67 fr σ I J R n x0 x1 x2 x3 = some r9 → WX11_equalThings G l dn wn σ (σ, I, J, D, R) (some (vI r9)) (σ, I, J, D, R) 67 [(0, vR x0), (1, vR x1), (2, vI x2), (3, vI x3)] [] := by
  intro n
  induction n with
  | zero =>
    intro x0 x1 x2 x3 h
    have h : none = some _ := h
    cases h
  | succ n ih =>
    intro x0 x1 x2 x3 h
    rw [fX11_equalThings_l67] at h
    refine r_iload_n (pc := 67) dX11_equalThings_67 rfl 3 rfl ?_
    refine r_aload_n (pc := 68) dX11_equalThings_68 rfl 0 rfl ?_
    obtain ⟨a13, ha13, h⟩ := ob h
    refine r_ref0 ha13 ?_
    obtain ⟨g14, h⟩ := gd h
    obtain ⟨a15, ha15, h⟩ := ob h
    refine r_getS (pc := 69) dX11_equalThings_69 fgX11_101 rfl g14 ha15 ?_
    obtain ⟨g16, h⟩ := gd h
    refine r_alen (pc := 72) dX11_equalThings_72 g16 (by decide) ?_
    refine r_icmp_ge (pc := 73) (tgt := 141) dX11_equalThings_73 rfl (fun c => ?_) (fun c => ?_)
    · have h := it h c
      refine r_iconst (pc := 141) dX11_equalThings_141 kc_iconst_1 ?_
      cases h
      exact r_zret dX11_equalThings_142 (Or.inr rfl)
    · have h := ie h c
      refine r_aload_n (pc := 76) dX11_equalThings_76 rfl 0 rfl ?_
      refine r_ref0 ha13 ?_
      refine r_getI (pc := 77) dX11_equalThings_77 fgX11_113 rfl g14 ?_
      refine r_bipush (pc := 80) dX11_equalThings_80 kc_bipush_17 ?_
      refine r_icmp_ne (pc := 82) (tgt := 108) dX11_equalThings_82 rfl (fun c => ?_) (fun c => ?_)
      · have h := ie h c
        refine r_aload_n (pc := 108) dX11_equalThings_108 rfl 0 rfl ?_
        refine r_ref0 ha13 ?_
        refine r_getS (pc := 109) dX11_equalThings_109 fgX11_101 rfl g14 ha15 ?_
        refine r_iload_n (pc := 112) dX11_equalThings_112 rfl 3 rfl ?_
        obtain ⟨g17, h⟩ := gd h
        refine r_aaload (pc := 113) dX11_equalThings_113 g16 (by decide) g17 ?_
        refine r_aload_n (pc := 114) dX11_equalThings_114 rfl 1 rfl ?_
        obtain ⟨a18, ha18, h⟩ := ob h
        refine r_ref0 ha18 ?_
        obtain ⟨g19, h⟩ := gd h
        obtain ⟨a20, ha20, h⟩ := ob h
        refine r_getS (pc := 115) dX11_equalThings_115 fgX11_101 rfl g19 ha20 ?_
        refine r_iload_n (pc := 118) dX11_equalThings_118 rfl 3 rfl ?_
        obtain ⟨g21, h⟩ := gd h
        obtain ⟨g22, h⟩ := gd h
        refine r_aaload (pc := 119) dX11_equalThings_119 g21 (by decide) g22 ?_
        refine r_iload_n (pc := 120) dX11_equalThings_120 rfl 2 rfl ?_
        refine r_iconst (pc := 121) dX11_equalThings_121 kc_iconst_1 ?_
        refine r_iadd (pc := 122) dX11_equalThings_122 ?_
        obtain ⟨r23, hc24, h⟩ := ob h
        refine r_callS1 (pc := 123) (av := [vR (R a15 (Int32.toNatClampNeg x3)), vR (R a20 (Int32.toNatClampNeg x3)), vI (x2 + (1 : Int32))]) (S := []) dX11_equalThings_123 (ihn hc24) mkX11_202 mwX11_equalThings rfl ⟨by simp only [rmx]; omega, by simp only [rmx]; omega⟩ (Nat.le_of_ble_eq_true rfl) ⟨Nat.le_refl _, Nat.le_refl _⟩ (fun b => b) ?_
        refine r_istore (pc := 126) (L' := [(4, vI r23), (0, vR x0), (1, vR x1), (2, vI x2), (3, vI x3)]) dX11_equalThings_126 (by decide) rfl ?_
        refine r_iload (pc := 128) dX11_equalThings_128 0 rfl ?_
        refine r_ifne (pc := 130) (tgt := 135) dX11_equalThings_130 rfl (fun c => ?_) (fun c => ?_)
        · have h := ie h c
          refine r_iinc (pc := 135) (v := (x3 + (1 : Int32))) (L' := [(3, vI (x3 + (1 : Int32))), (4, vI r23), (0, vR x0), (1, vR x1), (2, vI x2)]) dX11_equalThings_135 4 rfl (kc_inc_1 _) (by decide) rfl ?_
          refine r_goto (pc := 138) (tgt := 67) dX11_equalThings_138 rfl ?_
          refine r_sub [2, 3, 4, 0] rfl ?_
          exact ih _ _ _ _ h
        · have h := it h c
          refine r_iconst (pc := 133) dX11_equalThings_133 kc_iconst_0 ?_
          cases h
          exact r_zret dX11_equalThings_134 (Or.inl rfl)
      · have h := it h c
        refine r_aload_n (pc := 85) dX11_equalThings_85 rfl 0 rfl ?_
        refine r_ref0 ha13 ?_
        refine r_getS (pc := 86) dX11_equalThings_86 fgX11_101 rfl g14 ha15 ?_
        refine r_iload_n (pc := 89) dX11_equalThings_89 rfl 3 rfl ?_
        obtain ⟨g26, h⟩ := gd h
        refine r_aaload (pc := 90) dX11_equalThings_90 g16 (by decide) g26 ?_
        refine r_aload_n (pc := 91) dX11_equalThings_91 rfl 1 rfl ?_
        obtain ⟨a27, ha27, h⟩ := ob h
        refine r_ref0 ha27 ?_
        obtain ⟨g28, h⟩ := gd h
        obtain ⟨a29, ha29, h⟩ := ob h
        refine r_getS (pc := 92) dX11_equalThings_92 fgX11_101 rfl g28 ha29 ?_
        refine r_iload_n (pc := 95) dX11_equalThings_95 rfl 3 rfl ?_
        obtain ⟨g30, h⟩ := gd h
        obtain ⟨g31, h⟩ := gd h
        refine r_aaload (pc := 96) dX11_equalThings_96 g30 (by decide) g31 ?_
        obtain ⟨g32, h⟩ := gd h
        obtain ⟨g33, h⟩ := gd h
        refine r_acmp_ne (pc := 97) (tgt := 104) (t := 11) dX11_equalThings_97 rfl (by decide) (by decide) g32 g33 (fun c => ?_) (fun c => ?_)
        · have h := ie h c
          refine r_iconst (pc := 104) dX11_equalThings_104 kc_iconst_0 ?_
          refine r_goto (pc := 105) (tgt := 126) dX11_equalThings_105 rfl ?_
          refine r_istore (pc := 126) (L' := [(4, vI (0 : Int32)), (0, vR x0), (1, vR x1), (2, vI x2), (3, vI x3)]) dX11_equalThings_126 (by decide) rfl ?_
          refine r_iload (pc := 128) dX11_equalThings_128 0 rfl ?_
          refine r_ifne (pc := 130) (tgt := 135) dX11_equalThings_130 rfl (fun c => ?_) (fun c => ?_)
          · have h := ie h c
            refine r_iinc (pc := 135) (v := (x3 + (1 : Int32))) (L' := [(3, vI (x3 + (1 : Int32))), (4, vI (0 : Int32)), (0, vR x0), (1, vR x1), (2, vI x2)]) dX11_equalThings_135 4 rfl (kc_inc_1 _) (by decide) rfl ?_
            refine r_goto (pc := 138) (tgt := 67) dX11_equalThings_138 rfl ?_
            refine r_sub [2, 3, 4, 0] rfl ?_
            exact ih _ _ _ _ h
          · have h := it h c
            refine r_iconst (pc := 133) dX11_equalThings_133 kc_iconst_0 ?_
            cases h
            exact r_zret dX11_equalThings_134 (Or.inl rfl)
        · have h := it h c
          refine r_iconst (pc := 100) dX11_equalThings_100 kc_iconst_1 ?_
          refine r_goto (pc := 101) (tgt := 126) dX11_equalThings_101 rfl ?_
          refine r_istore (pc := 126) (L' := [(4, vI (1 : Int32)), (0, vR x0), (1, vR x1), (2, vI x2), (3, vI x3)]) dX11_equalThings_126 (by decide) rfl ?_
          refine r_iload (pc := 128) dX11_equalThings_128 0 rfl ?_
          refine r_ifne (pc := 130) (tgt := 135) dX11_equalThings_130 rfl (fun c => ?_) (fun c => ?_)
          · have h := ie h c
            refine r_iinc (pc := 135) (v := (x3 + (1 : Int32))) (L' := [(3, vI (x3 + (1 : Int32))), (4, vI (1 : Int32)), (0, vR x0), (1, vR x1), (2, vI x2)]) dX11_equalThings_135 4 rfl (kc_inc_1 _) (by decide) rfl ?_
            refine r_goto (pc := 138) (tgt := 67) dX11_equalThings_138 rfl ?_
            refine r_sub [2, 3, 4, 0] rfl ?_
            exact ih _ _ _ _ h
          · have h := it h c
            refine r_iconst (pc := 133) dX11_equalThings_133 kc_iconst_0 ?_
            cases h
            exact r_zret dX11_equalThings_134 (Or.inl rfl)
def fX11_equalThings : Nat → (Shp) → (Nat → Nat → Int32) → (Nat → Nat → Int64) → (Nat → Nat → Option Nat) → (Option Nat) → (Option Nat) → (Int32) → Option ((Int32))
  | 0, _, _, _, _, _, _, _ => none
  | n + 1, σ, I, J, R, x0, x1, x2 =>
    if okR σ 11 x0 = true then
    if okR σ 11 x1 = true then
    if x0 = x1 then
      some (1 : Int32)
    else
      onl x0
        (
          some (0 : Int32))
        (fun a3 =>
          onl x1
            (
              some (0 : Int32))
            (fun a4 =>
              if kdx σ a3 = 11 then
              if kdx σ a4 = 11 then
              if (I a3 0) = (I a4 0) then
                if (I a3 0) = (16 : Int32) then
                  some (0 : Int32)
                else
                  if x2 ≤ (3 : Int32) then
                    (fX11_equalCells σ J R (some a3) (some a4)).bind fun r7 =>
                    if r7 = 0 then
                      some (0 : Int32)
                    else
                      ((R a3 2) : Option Nat).bind fun a9 =>
                      if kdx σ a9 = 26 then
                      ((R a4 2) : Option Nat).bind fun a11 =>
                      if kdx σ a11 = 26 then
                      if (Int32.ofNat (lnx σ a9)) = (Int32.ofNat (lnx σ a11)) then
                        fX11_equalThings_l67 (fX11_equalThings n) σ I J R FUx x0 x1 x2 (0 : Int32)
                      else
                        some (0 : Int32)
                      else none
                      else none
                  else
                    some (0 : Int32)
              else
                some (0 : Int32)
              else none
              else none))
    else none
    else none
theorem kX11_equalThings {G : Gx} {l : Launch} : ∀ (n : Nat) {σ : Shp} {I : Nat → Nat → Int32} {J : Nat → Nat → Int64} {D : Nat → Nat → UInt64} {R : Nat → Nat → Option Nat} {x0 : Option Nat} {x1 : Option Nat} {x2 : Int32} {r9 : Int32}, fX11_equalThings n σ I J R x0 x1 x2 = some r9 → Con G l yX11_equalThings cX11_equalThings 5 (some .boolean) (1 + n) (22 + 24 * n) [vR x0, vR x1, vI x2] (σ, I, J, D, R) (σ, I, J, D, R) (some (vI r9)) := by
  intro n
  induction n with
  | zero =>
    intro σ I J D R x0 x1 x2 r9 h
    have h : none = some _ := h
    cases h
  | succ n ihn =>
    intro σ I J D R x0 x1 x2 r9 h
    rw [fX11_equalThings] at h
    have hdr : 1 + n + 1 ≤ 1 + (n + 1) ∧ 24 + (22 + 24 * n) ≤ 22 + 24 * (n + 1) ∧ 1 ≤ 1 + (n + 1) ∧ 22 ≤ 22 + 24 * (n + 1) := by omega
    refine Con.mk (by decide +kernel) rfl (Nat.le_of_ble_eq_true rfl) ?_
    show WX11_equalThings G l (1 + (n + 1)) (22 + 24 * (n + 1)) σ (σ, I, J, D, R) (some (vI r9)) (σ, I, J, D, R) 0 _ []
    refine r_aload_n (pc := 0) dX11_equalThings_0 rfl 0 rfl ?_
    refine r_aload_n (pc := 1) dX11_equalThings_1 rfl 1 rfl ?_
    obtain ⟨g1, h⟩ := gd h
    obtain ⟨g2, h⟩ := gd h
    refine r_acmp_ne (pc := 2) (tgt := 7) (t := 11) dX11_equalThings_2 rfl (by decide) (by decide) g1 g2 (fun c => ?_) (fun c => ?_)
    · have h := ie h c
      refine r_aload_n (pc := 7) dX11_equalThings_7 rfl 0 rfl ?_
      rcases onl_c h with ⟨ea3, h⟩ | ⟨a3, ha3, h⟩
      · refine r_ref0n ea3 ?_
        refine r_ifnull_n (pc := 8) (tgt := 40) dX11_equalThings_8 rfl ?_
        refine r_iconst (pc := 40) dX11_equalThings_40 kc_iconst_0 ?_
        cases h
        exact r_zret dX11_equalThings_41 (Or.inl rfl)
      · refine r_ref0 ha3 ?_
        refine r_ifnull_s (pc := 8) dX11_equalThings_8 ?_
        refine r_aload_n (pc := 11) dX11_equalThings_11 rfl 1 rfl ?_
        rcases onl_c h with ⟨ea4, h⟩ | ⟨a4, ha4, h⟩
        · refine r_ref0n ea4 ?_
          refine r_ifnull_n (pc := 12) (tgt := 40) dX11_equalThings_12 rfl ?_
          refine r_iconst (pc := 40) dX11_equalThings_40 kc_iconst_0 ?_
          cases h
          exact r_zret dX11_equalThings_41 (Or.inl rfl)
        · refine r_ref0 ha4 ?_
          refine r_ifnull_s (pc := 12) dX11_equalThings_12 ?_
          refine r_aload_n (pc := 15) dX11_equalThings_15 rfl 0 rfl ?_
          refine r_ref0 ha3 ?_
          obtain ⟨g5, h⟩ := gd h
          refine r_getI (pc := 16) dX11_equalThings_16 fgX11_113 rfl g5 ?_
          refine r_aload_n (pc := 19) dX11_equalThings_19 rfl 1 rfl ?_
          refine r_ref0 ha4 ?_
          obtain ⟨g6, h⟩ := gd h
          refine r_getI (pc := 20) dX11_equalThings_20 fgX11_113 rfl g6 ?_
          refine r_icmp_ne (pc := 23) (tgt := 40) dX11_equalThings_23 rfl (fun c => ?_) (fun c => ?_)
          · have h := ie h c
            refine r_iconst (pc := 40) dX11_equalThings_40 kc_iconst_0 ?_
            cases h
            exact r_zret dX11_equalThings_41 (Or.inl rfl)
          · have h := it h c
            refine r_aload_n (pc := 26) dX11_equalThings_26 rfl 0 rfl ?_
            refine r_ref0 ha3 ?_
            refine r_getI (pc := 27) dX11_equalThings_27 fgX11_113 rfl g5 ?_
            refine r_bipush (pc := 30) dX11_equalThings_30 kc_bipush_16 ?_
            refine r_icmp_eq (pc := 32) (tgt := 40) dX11_equalThings_32 rfl (fun c => ?_) (fun c => ?_)
            · have h := it h c
              refine r_iconst (pc := 40) dX11_equalThings_40 kc_iconst_0 ?_
              cases h
              exact r_zret dX11_equalThings_41 (Or.inl rfl)
            · have h := ie h c
              refine r_iload_n (pc := 35) dX11_equalThings_35 rfl 2 rfl ?_
              refine r_iconst (pc := 36) dX11_equalThings_36 kc_iconst_3 ?_
              refine r_icmp_le (pc := 37) (tgt := 42) dX11_equalThings_37 rfl (fun c => ?_) (fun c => ?_)
              · have h := it h c
                refine r_aload_n (pc := 42) dX11_equalThings_42 rfl 0 rfl ?_
                refine r_ref0 ha3 ?_
                refine r_aload_n (pc := 43) dX11_equalThings_43 rfl 1 rfl ?_
                refine r_ref0 ha4 ?_
                obtain ⟨r7, hc8, h⟩ := ob h
                refine r_callS1 (pc := 44) (av := [vR (some a3), vR (some a4)]) (S := []) dX11_equalThings_44 (kX11_equalCells hc8) mkX11_521 mwX11_equalCells rfl ⟨by simp only [rmx]; omega, by simp only [rmx]; omega⟩ (Nat.le_of_ble_eq_true rfl) ⟨Nat.le_refl _, Nat.le_refl _⟩ (fun b => b) ?_
                refine r_if_eq (pc := 47) (tgt := 63) dX11_equalThings_47 rfl (fun c => ?_) (fun c => ?_)
                · have h := it h c
                  refine r_iconst (pc := 63) dX11_equalThings_63 kc_iconst_0 ?_
                  cases h
                  exact r_zret dX11_equalThings_64 (Or.inl rfl)
                · have h := ie h c
                  refine r_aload_n (pc := 50) dX11_equalThings_50 rfl 0 rfl ?_
                  refine r_ref0 ha3 ?_
                  obtain ⟨a9, ha9, h⟩ := ob h
                  refine r_getS (pc := 51) dX11_equalThings_51 fgX11_101 rfl g5 ha9 ?_
                  obtain ⟨g10, h⟩ := gd h
                  refine r_alen (pc := 54) dX11_equalThings_54 g10 (by decide) ?_
                  refine r_aload_n (pc := 55) dX11_equalThings_55 rfl 1 rfl ?_
                  refine r_ref0 ha4 ?_
                  obtain ⟨a11, ha11, h⟩ := ob h
                  refine r_getS (pc := 56) dX11_equalThings_56 fgX11_101 rfl g6 ha11 ?_
                  obtain ⟨g12, h⟩ := gd h
                  refine r_alen (pc := 59) dX11_equalThings_59 g12 (by decide) ?_
                  refine r_icmp_eq (pc := 60) (tgt := 65) dX11_equalThings_60 rfl (fun c => ?_) (fun c => ?_)
                  · have h := it h c
                    refine r_iconst (pc := 65) dX11_equalThings_65 kc_iconst_0 ?_
                    refine r_istore_n (pc := 66) (L' := [(3, vI (0 : Int32)), (0, vR x0), (1, vR x1), (2, vI x2)]) dX11_equalThings_66 rfl (by decide) rfl ?_
                    refine r_sub [1, 2, 3, 0] rfl ?_
                    exact wX11_equalThings_l67 hdr ihn _ _ _ _ _ h
                  · have h := ie h c
                    refine r_iconst (pc := 63) dX11_equalThings_63 kc_iconst_0 ?_
                    cases h
                    exact r_zret dX11_equalThings_64 (Or.inl rfl)
              · have h := ie h c
                refine r_iconst (pc := 40) dX11_equalThings_40 kc_iconst_0 ?_
                cases h
                exact r_zret dX11_equalThings_41 (Or.inl rfl)
    · have h := it h c
      refine r_iconst (pc := 5) dX11_equalThings_5 kc_iconst_1 ?_
      cases h
      exact r_zret dX11_equalThings_6 (Or.inr rfl)
abbrev WX11_alike (G : Gx) (l : Launch) (σ0 : Shp) (X1 : Stt) (rv : Option SV) : Stt → Nat → List (Nat × SV) → List SV → Prop := Wm G l yX11_alike cX11_alike 3 (some .int) (fun _ => True) (rmx 10 238 σ0 X1.1) σ0 (Qmx G σ0 X1 rv)
def fX11_alike (σ : Shp) (I : Nat → Nat → Int32) (J : Nat → Nat → Int64) (R : Nat → Nat → Option Nat) (t : Nat) (x1 : Int32) (x2 : Int32) : Option ((Int32)) :=
  if (fX11_isBin x1) = 0 then
    some (-2 : Int32)
  else
    if (fX11_isBin x2) = 0 then
      some (-2 : Int32)
    else
      if kdx σ t = 12 then
      ((R t 1) : Option Nat).bind fun a2 =>
      if kdx σ a2 = 26 then
      if ¬ (x1 < 0 ∨ lnx σ a2 ≤ Int32.toNatClampNeg x1) then
      if ¬ (x2 < 0 ∨ lnx σ a2 ≤ Int32.toNatClampNeg x2) then
      if okR σ 11 (R a2 (Int32.toNatClampNeg x1)) = true then
      if okR σ 11 (R a2 (Int32.toNatClampNeg x2)) = true then
      if (R a2 (Int32.toNatClampNeg x1)) = (R a2 (Int32.toNatClampNeg x2)) then
        some (2 : Int32)
      else
        (fX11_equalThings 8 σ I J R (R a2 (Int32.toNatClampNeg x1)) (R a2 (Int32.toNatClampNeg x2)) (0 : Int32)).bind fun r8 =>
        if r8 = 0 then
          some (0 : Int32)
        else
          some (1 : Int32)
      else none
      else none
      else none
      else none
      else none
      else none
theorem kX11_alike {G : Gx} {l : Launch} {σ : Shp} {I : Nat → Nat → Int32} {J : Nat → Nat → Int64} {D : Nat → Nat → UInt64} {R : Nat → Nat → Option Nat} {t : Nat} {x1 : Int32} {x2 : Int32} {r9 : Int32} (h : fX11_alike σ I J R t x1 x2 = some r9) : Con G l yX11_alike cX11_alike 3 (some .int) 10 238 [vR (some t), vI x1, vI x2] (σ, I, J, D, R) (σ, I, J, D, R) (some (vI r9)) := by
  unfold fX11_alike at h
  refine Con.mk (by decide +kernel) rfl (Nat.le_of_ble_eq_true rfl) ?_
  show WX11_alike G l σ (σ, I, J, D, R) (some (vI r9)) (σ, I, J, D, R) 0 _ []
  refine r_iload_n (pc := 0) dX11_alike_0 rfl 1 rfl ?_
  refine r_callS1 (pc := 1) (av := [vI x1]) (S := []) dX11_alike_1 (kX11_isBin rfl) mkX11_76 mwX11_isBin rfl ⟨Nat.le_of_ble_eq_true rfl, Nat.le_of_ble_eq_true rfl⟩ (Nat.le_of_ble_eq_true rfl) ⟨Nat.le_refl _, Nat.le_refl _⟩ (fun b => b) ?_
  refine r_if_eq (pc := 4) (tgt := 14) dX11_alike_4 rfl (fun c => ?_) (fun c => ?_)
  · have h := it h c
    refine r_bipush (pc := 14) dX11_alike_14 kc_bipush_m2 ?_
    cases h
    exact r_iret dX11_alike_16
  · have h := ie h c
    refine r_iload_n (pc := 7) dX11_alike_7 rfl 2 rfl ?_
    refine r_callS1 (pc := 8) (av := [vI x2]) (S := []) dX11_alike_8 (kX11_isBin rfl) mkX11_76 mwX11_isBin rfl ⟨Nat.le_of_ble_eq_true rfl, Nat.le_of_ble_eq_true rfl⟩ (Nat.le_of_ble_eq_true rfl) ⟨Nat.le_refl _, Nat.le_refl _⟩ (fun b => b) ?_
    refine r_ifne (pc := 11) (tgt := 17) dX11_alike_11 rfl (fun c => ?_) (fun c => ?_)
    · have h := ie h c
      refine r_aload_n (pc := 17) dX11_alike_17 rfl 0 rfl ?_
      obtain ⟨g1, h⟩ := gd h
      obtain ⟨a2, ha2, h⟩ := ob h
      refine r_getS (pc := 18) dX11_alike_18 fgX11_20 rfl g1 ha2 ?_
      refine r_iload_n (pc := 21) dX11_alike_21 rfl 1 rfl ?_
      obtain ⟨g3, h⟩ := gd h
      obtain ⟨g4, h⟩ := gd h
      refine r_aaload (pc := 22) dX11_alike_22 g3 (by decide) g4 ?_
      refine r_aload_n (pc := 23) dX11_alike_23 rfl 0 rfl ?_
      refine r_getS (pc := 24) dX11_alike_24 fgX11_20 rfl g1 ha2 ?_
      refine r_iload_n (pc := 27) dX11_alike_27 rfl 2 rfl ?_
      obtain ⟨g5, h⟩ := gd h
      refine r_aaload (pc := 28) dX11_alike_28 g3 (by decide) g5 ?_
      obtain ⟨g6, h⟩ := gd h
      obtain ⟨g7, h⟩ := gd h
      refine r_acmp_ne (pc := 29) (tgt := 34) (t := 11) dX11_alike_29 rfl (by decide) (by decide) g6 g7 (fun c => ?_) (fun c => ?_)
      · have h := ie h c
        refine r_aload_n (pc := 34) dX11_alike_34 rfl 0 rfl ?_
        refine r_getS (pc := 35) dX11_alike_35 fgX11_20 rfl g1 ha2 ?_
        refine r_iload_n (pc := 38) dX11_alike_38 rfl 1 rfl ?_
        refine r_aaload (pc := 39) dX11_alike_39 g3 (by decide) g4 ?_
        refine r_aload_n (pc := 40) dX11_alike_40 rfl 0 rfl ?_
        refine r_getS (pc := 41) dX11_alike_41 fgX11_20 rfl g1 ha2 ?_
        refine r_iload_n (pc := 44) dX11_alike_44 rfl 2 rfl ?_
        refine r_aaload (pc := 45) dX11_alike_45 g3 (by decide) g5 ?_
        refine r_iconst (pc := 46) dX11_alike_46 kc_iconst_0 ?_
        obtain ⟨r8, hc9, h⟩ := ob h
        refine r_callS1 (pc := 47) (av := [vR (R a2 (Int32.toNatClampNeg x1)), vR (R a2 (Int32.toNatClampNeg x2)), vI (0 : Int32)]) (S := []) dX11_alike_47 (kX11_equalThings _ hc9) mkX11_202 mwX11_equalThings rfl ⟨Nat.le_of_ble_eq_true rfl, Nat.le_of_ble_eq_true rfl⟩ (Nat.le_of_ble_eq_true rfl) ⟨Nat.le_refl _, Nat.le_refl _⟩ (fun b => b) ?_
        refine r_if_eq (pc := 50) (tgt := 57) dX11_alike_50 rfl (fun c => ?_) (fun c => ?_)
        · have h := it h c
          refine r_iconst (pc := 57) dX11_alike_57 kc_iconst_0 ?_
          cases h
          exact r_iret dX11_alike_58
        · have h := ie h c
          refine r_iconst (pc := 53) dX11_alike_53 kc_iconst_1 ?_
          refine r_goto (pc := 54) (tgt := 58) dX11_alike_54 rfl ?_
          cases h
          exact r_iret dX11_alike_58
      · have h := it h c
        refine r_iconst (pc := 32) dX11_alike_32 kc_iconst_2 ?_
        cases h
        exact r_iret dX11_alike_33
    · have h := it h c
      refine r_bipush (pc := 14) dX11_alike_14 kc_bipush_m2 ?_
      cases h
      exact r_iret dX11_alike_16
abbrev WX11_size (G : Gx) (l : Launch) (σ0 : Shp) (X1 : Stt) (rv : Option SV) : Stt → Nat → List (Nat × SV) → List SV → Prop := Wm G l yX11_size cX11_size 4 (some .int) (fun _ => True) (rmx 1 22 σ0 X1.1) σ0 (Qmx G σ0 X1 rv)
def fX11_size (σ : Shp) (I : Nat → Nat → Int32) (R : Nat → Nat → Option Nat) (t : Nat) (x1 : Int32) (x2 : Int32) : Option ((Nat → Nat → Int32) × (Int32)) :=
  if (fX11_isBin x1) = 0 then
    some (I, (-2 : Int32))
  else
    if x2 < 0 then
      some (I, (-2 : Int32))
    else
      if x2 ≤ (1 : Int32) then
        if kdx σ t = 12 then
        ((R t 1) : Option Nat).bind fun a2 =>
        if kdx σ a2 = 26 then
        if ¬ (x1 < 0 ∨ lnx σ a2 ≤ Int32.toNatClampNeg x1) then
        let v5 := (R a2 (Int32.toNatClampNeg x1))
        onl v5
          (
            (fX11_fail σ I t (1 : Int32)).bind fun (I7, r8) =>
            some (I7, r8))
          (fun a6 =>
            (fX11_isRow σ I (some a6)).bind fun r10 =>
            if r10 = 0 then
              if kdx σ a6 = 11 then
              if (fX11_isPlacesForm (I a6 0)) = 0 then
                (fX11_fail σ I t (4 : Int32)).bind fun (I23, r24) =>
                some (I23, r24)
              else
                if x2 = 0 then
                  (fX10_length σ I R a6).bind fun r21 =>
                  some (I, r21)
                else
                  (fX10_emptyPlaces σ R a6).bind fun r19 =>
                  some (I, r19)
              else none
            else
              if x2 = 0 then
                if kdx σ a6 = 11 then
                (fX10_length σ I R a6).bind fun r16 =>
                some (I, r16)
                else none
              else
                if kdx σ a6 = 11 then
                (fX10_emptyPlaces σ R a6).bind fun r13 =>
                some (I, r13)
                else none)
        else none
        else none
        else none
      else
        some (I, (-2 : Int32))
theorem kX11_size {G : Gx} {l : Launch} {σ : Shp} {I : Nat → Nat → Int32} {J : Nat → Nat → Int64} {D : Nat → Nat → UInt64} {R : Nat → Nat → Option Nat} {t : Nat} {x1 : Int32} {x2 : Int32} {I9 : Nat → Nat → Int32} {r9 : Int32} (h : fX11_size σ I R t x1 x2 = some (I9, r9)) : Con G l yX11_size cX11_size 4 (some .int) 1 22 [vR (some t), vI x1, vI x2] (σ, I, J, D, R) (σ, I9, J, D, R) (some (vI r9)) := by
  unfold fX11_size at h
  refine Con.mk (by decide +kernel) rfl (Nat.le_of_ble_eq_true rfl) ?_
  show WX11_size G l σ (σ, I9, J, D, R) (some (vI r9)) (σ, I, J, D, R) 0 _ []
  refine r_iload_n (pc := 0) dX11_size_0 rfl 1 rfl ?_
  refine r_callS1 (pc := 1) (av := [vI x1]) (S := []) dX11_size_1 (kX11_isBin rfl) mkX11_76 mwX11_isBin rfl ⟨Nat.le_of_ble_eq_true rfl, Nat.le_of_ble_eq_true rfl⟩ (Nat.le_of_ble_eq_true rfl) ⟨Nat.le_refl _, Nat.le_refl _⟩ (fun b => b) ?_
  refine r_if_eq (pc := 4) (tgt := 16) dX11_size_4 rfl (fun c => ?_) (fun c => ?_)
  · have h := it h c
    refine r_bipush (pc := 16) dX11_size_16 kc_bipush_m2 ?_
    cases h
    exact r_iret dX11_size_18
  · have h := ie h c
    refine r_iload_n (pc := 7) dX11_size_7 rfl 2 rfl ?_
    refine r_if_lt (pc := 8) (tgt := 16) dX11_size_8 rfl (fun c => ?_) (fun c => ?_)
    · have h := it h c
      refine r_bipush (pc := 16) dX11_size_16 kc_bipush_m2 ?_
      cases h
      exact r_iret dX11_size_18
    · have h := ie h c
      refine r_iload_n (pc := 11) dX11_size_11 rfl 2 rfl ?_
      refine r_iconst (pc := 12) dX11_size_12 kc_iconst_1 ?_
      refine r_icmp_le (pc := 13) (tgt := 19) dX11_size_13 rfl (fun c => ?_) (fun c => ?_)
      · have h := it h c
        refine r_aload_n (pc := 19) dX11_size_19 rfl 0 rfl ?_
        obtain ⟨g1, h⟩ := gd h
        obtain ⟨a2, ha2, h⟩ := ob h
        refine r_getS (pc := 20) dX11_size_20 fgX11_20 rfl g1 ha2 ?_
        refine r_iload_n (pc := 23) dX11_size_23 rfl 1 rfl ?_
        obtain ⟨g3, h⟩ := gd h
        obtain ⟨g4, h⟩ := gd h
        refine r_aaload (pc := 24) dX11_size_24 g3 (by decide) g4 ?_
        refine r_astore_n (pc := 25) (L' := [(3, vR (R a2 (Int32.toNatClampNeg x1))), (0, vR (some t)), (1, vI x1), (2, vI x2)]) dX11_size_25 rfl (by decide) rfl ?_
        refine r_aload_n (pc := 26) dX11_size_26 rfl 0 rfl ?_
        rcases onl_c h with ⟨ea6, h⟩ | ⟨a6, ha6, h⟩
        · refine r_ref0n ea6 ?_
          refine r_ifnonnull_n (pc := 27) dX11_size_27 ?_
          refine r_aload_n (pc := 30) dX11_size_30 rfl 1 rfl ?_
          refine r_iconst (pc := 31) dX11_size_31 kc_iconst_1 ?_
          obtain ⟨⟨I7, r8⟩, hc9, h⟩ := ob h
          refine r_callV1 (pc := 32) (av := [vI (1 : Int32)]) (S := []) dX11_size_32 (kX11_fail hc9) g1 rfl mkX11_87 mwX11_fail rfl ⟨Nat.le_of_ble_eq_true rfl, Nat.le_of_ble_eq_true rfl⟩ (Nat.le_of_ble_eq_true rfl) ⟨Nat.le_refl _, Nat.le_refl _⟩ (fun b => b) ?_
          cases h
          exact r_iret dX11_size_35
        · refine r_ref0 ha6 ?_
          refine r_ifnonnull_s (pc := 27) (tgt := 36) dX11_size_27 rfl ?_
          refine r_aload_n (pc := 36) dX11_size_36 rfl 0 rfl ?_
          refine r_ref0 ha6 ?_
          obtain ⟨r10, hc11, h⟩ := ob h
          refine r_callS1 (pc := 37) (av := [vR (some a6)]) (S := []) dX11_size_37 (kX11_isRow hc11) mkX11_183 mwX11_isRow rfl ⟨Nat.le_of_ble_eq_true rfl, Nat.le_of_ble_eq_true rfl⟩ (Nat.le_of_ble_eq_true rfl) ⟨Nat.le_refl _, Nat.le_refl _⟩ (fun b => b) ?_
          refine r_ifne (pc := 40) (tgt := 59) dX11_size_40 rfl (fun c => ?_) (fun c => ?_)
          · have h := ie h c
            refine r_iload_n (pc := 59) dX11_size_59 rfl 3 rfl ?_
            refine r_ifne (pc := 60) (tgt := 70) dX11_size_60 rfl (fun c => ?_) (fun c => ?_)
            · have h := ie h c
              refine r_aload_n (pc := 70) dX11_size_70 rfl 0 rfl ?_
              refine r_ref0 ha6 ?_
              obtain ⟨g12, h⟩ := gd h
              obtain ⟨r13, hc14, h⟩ := ob h
              refine r_callV1 (pc := 71) (av := []) (S := []) dX11_size_71 (kX10_emptyPlaces hc14) g12 rfl mkX11_209 mwX10_emptyPlaces rfl ⟨Nat.le_of_ble_eq_true rfl, Nat.le_of_ble_eq_true rfl⟩ (Nat.le_of_ble_eq_true rfl) ⟨Nat.le_refl _, Nat.le_refl _⟩ (fun b => b) ?_
              cases h
              exact r_iret dX11_size_74
            · have h := it h c
              refine r_aload_n (pc := 63) dX11_size_63 rfl 0 rfl ?_
              refine r_ref0 ha6 ?_
              obtain ⟨g15, h⟩ := gd h
              obtain ⟨r16, hc17, h⟩ := ob h
              refine r_callV1 (pc := 64) (av := []) (S := []) dX11_size_64 (kX10_length hc17) g15 rfl mkX11_175 mwX10_length rfl ⟨Nat.le_of_ble_eq_true rfl, Nat.le_of_ble_eq_true rfl⟩ (Nat.le_of_ble_eq_true rfl) ⟨Nat.le_refl _, Nat.le_refl _⟩ (fun b => b) ?_
              refine r_goto (pc := 67) (tgt := 74) dX11_size_67 rfl ?_
              cases h
              exact r_iret dX11_size_74
          · have h := it h c
            refine r_aload_n (pc := 43) dX11_size_43 rfl 0 rfl ?_
            refine r_ref0 ha6 ?_
            obtain ⟨g18, h⟩ := gd h
            refine r_getI (pc := 44) dX11_size_44 fgX11_113 rfl g18 ?_
            refine r_callS1 (pc := 47) (av := [vI (I a6 0)]) (S := []) dX11_size_47 (kX11_isPlacesForm rfl) mkX11_206 mwX11_isPlacesForm rfl ⟨Nat.le_of_ble_eq_true rfl, Nat.le_of_ble_eq_true rfl⟩ (Nat.le_of_ble_eq_true rfl) ⟨Nat.le_refl _, Nat.le_refl _⟩ (fun b => b) ?_
            refine r_ifne (pc := 50) (tgt := 59) dX11_size_50 rfl (fun c => ?_) (fun c => ?_)
            · have h := ie h c
              refine r_iload_n (pc := 59) dX11_size_59 rfl 3 rfl ?_
              refine r_ifne (pc := 60) (tgt := 70) dX11_size_60 rfl (fun c => ?_) (fun c => ?_)
              · have h := ie h c
                refine r_aload_n (pc := 70) dX11_size_70 rfl 0 rfl ?_
                refine r_ref0 ha6 ?_
                obtain ⟨r19, hc20, h⟩ := ob h
                refine r_callV1 (pc := 71) (av := []) (S := []) dX11_size_71 (kX10_emptyPlaces hc20) g18 rfl mkX11_209 mwX10_emptyPlaces rfl ⟨Nat.le_of_ble_eq_true rfl, Nat.le_of_ble_eq_true rfl⟩ (Nat.le_of_ble_eq_true rfl) ⟨Nat.le_refl _, Nat.le_refl _⟩ (fun b => b) ?_
                cases h
                exact r_iret dX11_size_74
              · have h := it h c
                refine r_aload_n (pc := 63) dX11_size_63 rfl 0 rfl ?_
                refine r_ref0 ha6 ?_
                obtain ⟨r21, hc22, h⟩ := ob h
                refine r_callV1 (pc := 64) (av := []) (S := []) dX11_size_64 (kX10_length hc22) g18 rfl mkX11_175 mwX10_length rfl ⟨Nat.le_of_ble_eq_true rfl, Nat.le_of_ble_eq_true rfl⟩ (Nat.le_of_ble_eq_true rfl) ⟨Nat.le_refl _, Nat.le_refl _⟩ (fun b => b) ?_
                refine r_goto (pc := 67) (tgt := 74) dX11_size_67 rfl ?_
                cases h
                exact r_iret dX11_size_74
            · have h := it h c
              refine r_aload_n (pc := 53) dX11_size_53 rfl 1 rfl ?_
              refine r_iconst (pc := 54) dX11_size_54 kc_iconst_4 ?_
              obtain ⟨⟨I23, r24⟩, hc25, h⟩ := ob h
              refine r_callV1 (pc := 55) (av := [vI (4 : Int32)]) (S := []) dX11_size_55 (kX11_fail hc25) g1 rfl mkX11_87 mwX11_fail rfl ⟨Nat.le_of_ble_eq_true rfl, Nat.le_of_ble_eq_true rfl⟩ (Nat.le_of_ble_eq_true rfl) ⟨Nat.le_refl _, Nat.le_refl _⟩ (fun b => b) ?_
              cases h
              exact r_iret dX11_size_58
      · have h := ie h c
        refine r_bipush (pc := 16) dX11_size_16 kc_bipush_m2 ?_
        cases h
        exact r_iret dX11_size_18
abbrev WX11_depthOf (G : Gx) (l : Launch) (σ0 : Shp) (X1 : Stt) (rv : Option SV) : Stt → Nat → List (Nat × SV) → List SV → Prop := Wm G l yX11_depthOf cX11_depthOf 1 (some .int) (fun _ => True) (rmx 0 0 σ0 X1.1) σ0 (Qmx G σ0 X1 rv)
def fX11_depthOf (σ : Shp) (I : Nat → Nat → Int32) (x0 : Option Nat) : Option ((Int32)) :=
  onl x0
    (
      some (0 : Int32))
    (fun a1 =>
      if kdx σ a1 = 11 then
      some (I a1 7)
      else none)
theorem kX11_depthOf {G : Gx} {l : Launch} {σ : Shp} {I : Nat → Nat → Int32} {J : Nat → Nat → Int64} {D : Nat → Nat → UInt64} {R : Nat → Nat → Option Nat} {x0 : Option Nat} {r9 : Int32} (h : fX11_depthOf σ I x0 = some r9) : Con G l yX11_depthOf cX11_depthOf 1 (some .int) 0 0 [vR x0] (σ, I, J, D, R) (σ, I, J, D, R) (some (vI r9)) := by
  unfold fX11_depthOf at h
  refine Con.mk (by decide +kernel) rfl (Nat.le_of_ble_eq_true rfl) ?_
  show WX11_depthOf G l σ (σ, I, J, D, R) (some (vI r9)) (σ, I, J, D, R) 0 _ []
  refine r_aload_n (pc := 0) dX11_depthOf_0 rfl 0 rfl ?_
  rcases onl_c h with ⟨ea1, h⟩ | ⟨a1, ha1, h⟩
  · refine r_ref0n ea1 ?_
    refine r_ifnonnull_n (pc := 1) dX11_depthOf_1 ?_
    refine r_iconst (pc := 4) dX11_depthOf_4 kc_iconst_0 ?_
    refine r_goto (pc := 5) (tgt := 12) dX11_depthOf_5 rfl ?_
    cases h
    exact r_iret dX11_depthOf_12
  · refine r_ref0 ha1 ?_
    refine r_ifnonnull_s (pc := 1) (tgt := 8) dX11_depthOf_1 rfl ?_
    refine r_aload_n (pc := 8) dX11_depthOf_8 rfl 0 rfl ?_
    refine r_ref0 ha1 ?_
    obtain ⟨g2, h⟩ := gd h
    refine r_getI (pc := 9) dX11_depthOf_9 fgX11_228 rfl g2 ?_
    cases h
    exact r_iret dX11_depthOf_12
abbrev WX11_plant (G : Gx) (l : Launch) (σ0 : Shp) (X1 : Stt) (rv : Option SV) : Stt → Nat → List (Nat × SV) → List SV → Prop := Wm G l yX11_plant cX11_plant 8 (some .int) (fun _ => True) (rmx 2 43 σ0 X1.1) σ0 (Qmx G σ0 X1 rv)
def fX11_plant_b207  (t : Nat) (σ : Shp) (I : Nat → Nat → Int32) (R : Nat → Nat → Option Nat) (x1 : Int32) (x2 : Int32) (x3 : Int32) (x4 : Int32) (x7 : Option Nat) : Option ((Shp) × (Nat → Nat → Int32) × (Nat → Nat → Option Nat) × (Int32)) :=
  (x7 : Option Nat).bind fun a10 =>
  if kdx σ a10 = 11 then
  let I12 := u2 I a10 3 x2
  let I13 := u2 I12 a10 5 x3
  let I14 := u2 I13 a10 6 x4
  if kdx σ t = 12 then
  let I16 := u2 I14 a10 4 (I14 t 15)
  let I17 := u2 I16 t 15 ((I16 t 15) + (1 : Int32))
  let I18 := u2 I17 t 12 ((I17 t 12) + (1 : Int32))
  ((R t 1) : Option Nat).bind fun a19 =>
  if kdx σ a19 = 26 then
  if ¬ (x1 < 0 ∨ lnx σ a19 ≤ Int32.toNatClampNeg x1) then
  let R22 := u2 R a19 (Int32.toNatClampNeg x1) (some a10)
  some (σ, I18, R22, (I18 a10 4))
  else none
  else none
  else none
  else none
theorem mX11_plant_b207 {σ : Shp} {I : Nat → Nat → Int32} {R : Nat → Nat → Option Nat} {t : Nat} {σ9 : Shp} {I9 : Nat → Nat → Int32} {R9 : Nat → Nat → Option Nat} {r9 : Int32} {x1 : Int32} {x2 : Int32} {x3 : Int32} {x4 : Int32} {x7 : Option Nat} (h : fX11_plant_b207 t σ I R x1 x2 x3 x4 x7 = some (σ9, I9, R9, r9)) : Lex σ σ9 := by
  unfold fX11_plant_b207 at h
  obtain ⟨a10, ha10, h⟩ := ob h
  replace h := (gd h).2
  replace h := (gd h).2
  obtain ⟨a19, ha19, h⟩ := ob h
  replace h := (gd h).2
  replace h := (gd h).2
  cases h
  exact ⟨Nat.le_refl _, Nat.le_refl _⟩
theorem wX11_plant_b207 {G : Gx} {l : Launch} {σ0 : Shp} {σ : Shp} {I : Nat → Nat → Int32} {J : Nat → Nat → Int64} {D : Nat → Nat → UInt64} {R : Nat → Nat → Option Nat} {t : Nat} {σ9 : Shp} {I9 : Nat → Nat → Int32} {R9 : Nat → Nat → Option Nat} {r9 : Int32} {x1 : Int32} {x2 : Int32} {x3 : Int32} {x4 : Int32} {x7 : Option Nat} (h : fX11_plant_b207 t σ I R x1 x2 x3 x4 x7 = some (σ9, I9, R9, r9)) : WX11_plant G l σ0 (σ9, I9, J, D, R9) (some (vI r9)) (σ, I, J, D, R) 207 [(0, vR (some t)), (1, vI x1), (2, vI x2), (3, vI x3), (4, vI x4), (7, vR x7)] [] := by
  unfold fX11_plant_b207 at h
  refine r_aload (pc := 207) dX11_plant_207 5 rfl ?_
  refine r_iload_n (pc := 209) dX11_plant_209 rfl 2 rfl ?_
  obtain ⟨a10, ha10, h⟩ := ob h
  refine r_ref1 ha10 ?_
  obtain ⟨g11, h⟩ := gd h
  refine r_putI (pc := 210) dX11_plant_210 fwX11_123 rfl g11 ?_
  refine r_aload (pc := 213) dX11_plant_213 5 rfl ?_
  refine r_ref0 ha10 ?_
  refine r_iload_n (pc := 215) dX11_plant_215 rfl 3 rfl ?_
  refine r_putI (pc := 216) dX11_plant_216 fwX11_231 rfl g11 ?_
  refine r_aload (pc := 219) dX11_plant_219 5 rfl ?_
  refine r_ref0 ha10 ?_
  refine r_iload (pc := 221) dX11_plant_221 4 rfl ?_
  refine r_putI (pc := 223) dX11_plant_223 fwX11_234 rfl g11 ?_
  refine r_aload (pc := 226) dX11_plant_226 5 rfl ?_
  refine r_ref0 ha10 ?_
  refine r_aload_n (pc := 228) dX11_plant_228 rfl 0 rfl ?_
  obtain ⟨g15, h⟩ := gd h
  refine r_getI (pc := 229) dX11_plant_229 fgX11_237 rfl g15 ?_
  refine r_putI (pc := 232) dX11_plant_232 fwX11_240 rfl g11 ?_
  refine r_aload_n (pc := 235) dX11_plant_235 rfl 0 rfl ?_
  refine r_dup (pc := 236) dX11_plant_236 rfl ?_
  refine r_getI (pc := 237) dX11_plant_237 fgX11_237 rfl g15 ?_
  refine r_iconst (pc := 240) dX11_plant_240 kc_iconst_1 ?_
  refine r_iadd (pc := 241) dX11_plant_241 ?_
  refine r_putI (pc := 242) dX11_plant_242 fwX11_237 rfl g15 ?_
  refine r_aload_n (pc := 245) dX11_plant_245 rfl 0 rfl ?_
  refine r_dup (pc := 246) dX11_plant_246 rfl ?_
  refine r_getI (pc := 247) dX11_plant_247 fgX11_243 rfl g15 ?_
  refine r_iconst (pc := 250) dX11_plant_250 kc_iconst_1 ?_
  refine r_iadd (pc := 251) dX11_plant_251 ?_
  refine r_putI (pc := 252) dX11_plant_252 fwX11_243 rfl g15 ?_
  refine r_aload_n (pc := 255) dX11_plant_255 rfl 0 rfl ?_
  obtain ⟨a19, ha19, h⟩ := ob h
  refine r_getS (pc := 256) dX11_plant_256 fgX11_20 rfl g15 ha19 ?_
  refine r_iload_n (pc := 259) dX11_plant_259 rfl 1 rfl ?_
  refine r_aload (pc := 260) dX11_plant_260 5 rfl ?_
  refine r_ref0 ha10 ?_
  obtain ⟨g20, h⟩ := gd h
  obtain ⟨g21, h⟩ := gd h
  refine r_aastore (c := 10) (pc := 262) dX11_plant_262 g20 (by decide) g21 (okR_s g11) ?_
  refine r_aload (pc := 263) dX11_plant_263 5 rfl ?_
  refine r_ref0 ha10 ?_
  refine r_getI (pc := 265) dX11_plant_265 fgX11_240 rfl g11 ?_
  cases h
  exact r_iret dX11_plant_268
def fX11_plant_b75  (t : Nat) (σ : Shp) (I : Nat → Nat → Int32) (R : Nat → Nat → Option Nat) (x1 : Int32) (x2 : Int32) (x3 : Int32) (x4 : Int32) (x5 : Int32) (x6 : Int32) (s0 : Nat) (s1 : Nat) (s2 : Int32) (s3 : Nat) (s4 : Nat) : Option ((Shp) × (Nat → Nat → Int32) × (Nat → Nat → Option Nat) × (Int32)) :=
  if kdx σ s1 = 11 then
  (fX10_init σ I R s1 s2 (some s3) (some s4)).bind fun (I7, R8) =>
  if x2 = (2 : Int32) then
    if (fX11_isBin x5) = 0 then
      fX11_plant_b207 t σ I7 R8 x1 x2 x3 x4 (some s0)
    else
      if (fX11_isBin x6) = 0 then
        fX11_plant_b207 t σ I7 R8 x1 x2 x3 x4 (some s0)
      else
        if kdx σ t = 12 then
        ((R8 t 1) : Option Nat).bind fun a24 =>
        if kdx σ a24 = 26 then
        if ¬ (x5 < 0 ∨ lnx σ a24 ≤ Int32.toNatClampNeg x5) then
        (fX11_goesFor σ I7 (R8 a24 (Int32.toNatClampNeg x5)) (16 : Int32)).bind fun r27 =>
        if r27 = 0 then
          (fX11_fail σ I7 t (4 : Int32)).bind fun (I29, r30) =>
          some (σ, I29, R8, r30)
        else
          if ¬ (x6 < 0 ∨ lnx σ a24 ≤ Int32.toNatClampNeg x6) then
          (fX11_goesFor σ I7 (R8 a24 (Int32.toNatClampNeg x6)) (16 : Int32)).bind fun r33 =>
          if r33 = 0 then
            (fX11_fail σ I7 t (4 : Int32)).bind fun (I54, r55) =>
            some (σ, I54, R8, r55)
          else
            (fX11_depthOf σ I7 (R8 a24 (Int32.toNatClampNeg x5))).bind fun r35 =>
            (fX11_depthOf σ I7 (R8 a24 (Int32.toNatClampNeg x6))).bind fun r37 =>
            if kdx σ s0 = 11 then
            let I40 := u2 I7 s0 7 ((1 : Int32) + (fXM_maxI r35 r37))
            if (I40 s0 7) ≤ (4 : Int32) then
              ((R8 s0 2) : Option Nat).bind fun a41 =>
              if kdx σ a41 = 26 then
              if ¬ ((0 : Int32) < 0 ∨ lnx σ a41 ≤ Int32.toNatClampNeg (0 : Int32)) then
              if okR σ 11 (R8 a24 (Int32.toNatClampNeg x5)) = true then
              let R45 := u2 R8 a41 (Int32.toNatClampNeg (0 : Int32)) (R8 a24 (Int32.toNatClampNeg x5))
              ((R45 s0 2) : Option Nat).bind fun a46 =>
              ((R45 t 1) : Option Nat).bind fun a47 =>
              if kdx σ a47 = 26 then
              if ¬ (x6 < 0 ∨ lnx σ a47 ≤ Int32.toNatClampNeg x6) then
              if kdx σ a46 = 26 then
              if ¬ ((1 : Int32) < 0 ∨ lnx σ a46 ≤ Int32.toNatClampNeg (1 : Int32)) then
              if okR σ 11 (R45 a47 (Int32.toNatClampNeg x6)) = true then
              let R53 := u2 R45 a46 (Int32.toNatClampNeg (1 : Int32)) (R45 a47 (Int32.toNatClampNeg x6))
              fX11_plant_b207 t σ I40 R53 x1 x2 x3 x4 (some s0)
              else none
              else none
              else none
              else none
              else none
              else none
              else none
              else none
            else
              some (σ, I40, R8, (-4 : Int32))
            else none
          else none
        else none
        else none
        else none
  else
    fX11_plant_b207 t σ I7 R8 x1 x2 x3 x4 (some s0)
  else none
theorem mX11_plant_b75 {σ : Shp} {I : Nat → Nat → Int32} {R : Nat → Nat → Option Nat} {t : Nat} {σ9 : Shp} {I9 : Nat → Nat → Int32} {R9 : Nat → Nat → Option Nat} {r9 : Int32} {x1 : Int32} {x2 : Int32} {x3 : Int32} {x4 : Int32} {x5 : Int32} {x6 : Int32} {s0 : Nat} {s1 : Nat} {s2 : Int32} {s3 : Nat} {s4 : Nat} (h : fX11_plant_b75 t σ I R x1 x2 x3 x4 x5 x6 s0 s1 s2 s3 s4 = some (σ9, I9, R9, r9)) : Lex σ σ9 := by
  unfold fX11_plant_b75 at h
  replace h := (gd h).2
  obtain ⟨⟨I7, R8⟩, hc9, h⟩ := ob h
  rcases itc h with ⟨c, h⟩ | ⟨c, h⟩
  · rcases itc h with ⟨c, h⟩ | ⟨c, h⟩
    · exact mX11_plant_b207 h
    · rcases itc h with ⟨c, h⟩ | ⟨c, h⟩
      · exact mX11_plant_b207 h
      · replace h := (gd h).2
        obtain ⟨a24, ha24, h⟩ := ob h
        replace h := (gd h).2
        replace h := (gd h).2
        obtain ⟨r27, hc28, h⟩ := ob h
        rcases itc h with ⟨c, h⟩ | ⟨c, h⟩
        · obtain ⟨⟨I29, r30⟩, hc31, h⟩ := ob h
          cases h
          exact ⟨Nat.le_refl _, Nat.le_refl _⟩
        · replace h := (gd h).2
          obtain ⟨r33, hc34, h⟩ := ob h
          rcases itc h with ⟨c, h⟩ | ⟨c, h⟩
          · obtain ⟨⟨I54, r55⟩, hc56, h⟩ := ob h
            cases h
            exact ⟨Nat.le_refl _, Nat.le_refl _⟩
          · obtain ⟨r35, hc36, h⟩ := ob h
            obtain ⟨r37, hc38, h⟩ := ob h
            replace h := (gd h).2
            rcases itc h with ⟨c, h⟩ | ⟨c, h⟩
            · obtain ⟨a41, ha41, h⟩ := ob h
              replace h := (gd h).2
              replace h := (gd h).2
              replace h := (gd h).2
              obtain ⟨a46, ha46, h⟩ := ob h
              obtain ⟨a47, ha47, h⟩ := ob h
              replace h := (gd h).2
              replace h := (gd h).2
              replace h := (gd h).2
              replace h := (gd h).2
              replace h := (gd h).2
              exact mX11_plant_b207 h
            · cases h
              exact ⟨Nat.le_refl _, Nat.le_refl _⟩
  · exact mX11_plant_b207 h
theorem wX11_plant_b75 {G : Gx} {l : Launch} {σ0 : Shp} {σ : Shp} {I : Nat → Nat → Int32} {J : Nat → Nat → Int64} {D : Nat → Nat → UInt64} {R : Nat → Nat → Option Nat} {t : Nat} {σ9 : Shp} {I9 : Nat → Nat → Int32} {R9 : Nat → Nat → Option Nat} {r9 : Int32} {x1 : Int32} {x2 : Int32} {x3 : Int32} {x4 : Int32} {x5 : Int32} {x6 : Int32} {s0 : Nat} {s1 : Nat} {s2 : Int32} {s3 : Nat} {s4 : Nat} (h : fX11_plant_b75 t σ I R x1 x2 x3 x4 x5 x6 s0 s1 s2 s3 s4 = some (σ9, I9, R9, r9)) : WX11_plant G l σ0 (σ9, I9, J, D, R9) (some (vI r9)) (σ, I, J, D, R) 75 [(0, vR (some t)), (1, vI x1), (2, vI x2), (3, vI x3), (4, vI x4), (5, vI x5), (6, vI x6)] [vR (some s4), vR (some s3), vI s2, vR (some s1), vR (some s0)] := by
  unfold fX11_plant_b75 at h
  obtain ⟨g6, h⟩ := gd h
  obtain ⟨⟨I7, R8⟩, hc9, h⟩ := ob h
  refine r_callI0 (pc := 75) (av := [vI s2, vR (some s3), vR (some s4)]) (S := [vR (some s0)]) dX11_plant_75 (kX10_init hc9) mkX11_215 rfl mwX10_init rfl ⟨Nat.le_of_ble_eq_true rfl, Nat.le_of_ble_eq_true rfl⟩ (Nat.le_of_ble_eq_true rfl) ⟨Nat.le_refl _, Nat.le_refl _⟩ (fun b => b) ?_
  refine r_astore (pc := 78) (L' := [(7, vR (some s0)), (0, vR (some t)), (1, vI x1), (2, vI x2), (3, vI x3), (4, vI x4), (5, vI x5), (6, vI x6)]) dX11_plant_78 (by decide) rfl ?_
  refine r_iload_n (pc := 80) dX11_plant_80 rfl 3 rfl ?_
  refine r_iconst (pc := 81) dX11_plant_81 kc_iconst_2 ?_
  refine r_icmp_ne (pc := 82) (tgt := 207) dX11_plant_82 rfl (fun c => ?_) (fun c => ?_)
  · have h := ie h c
    refine r_sub [1, 2, 3, 4, 5, 0] rfl ?_
    exact wX11_plant_b207 h
  · have h := it h c
    refine r_iload (pc := 85) dX11_plant_85 6 rfl ?_
    refine r_callS1 (pc := 87) (av := [vI x5]) (S := []) dX11_plant_87 (kX11_isBin rfl) mkX11_76 mwX11_isBin rfl ⟨Nat.le_of_ble_eq_true rfl, Nat.le_of_ble_eq_true rfl⟩ (Nat.le_of_ble_eq_true rfl) ⟨Nat.le_refl _, Nat.le_refl _⟩ (fun b => b) ?_
    refine r_if_eq (pc := 90) (tgt := 207) dX11_plant_90 rfl (fun c => ?_) (fun c => ?_)
    · have h := it h c
      refine r_sub [1, 2, 3, 4, 5, 0] rfl ?_
      exact wX11_plant_b207 h
    · have h := ie h c
      refine r_iload (pc := 93) dX11_plant_93 7 rfl ?_
      refine r_callS1 (pc := 95) (av := [vI x6]) (S := []) dX11_plant_95 (kX11_isBin rfl) mkX11_76 mwX11_isBin rfl ⟨Nat.le_of_ble_eq_true rfl, Nat.le_of_ble_eq_true rfl⟩ (Nat.le_of_ble_eq_true rfl) ⟨Nat.le_refl _, Nat.le_refl _⟩ (fun b => b) ?_
      refine r_if_eq (pc := 98) (tgt := 207) dX11_plant_98 rfl (fun c => ?_) (fun c => ?_)
      · have h := it h c
        refine r_sub [1, 2, 3, 4, 5, 0] rfl ?_
        exact wX11_plant_b207 h
      · have h := ie h c
        refine r_aload_n (pc := 101) dX11_plant_101 rfl 1 rfl ?_
        obtain ⟨g23, h⟩ := gd h
        obtain ⟨a24, ha24, h⟩ := ob h
        refine r_getS (pc := 102) dX11_plant_102 fgX11_20 rfl g23 ha24 ?_
        refine r_iload (pc := 105) dX11_plant_105 6 rfl ?_
        obtain ⟨g25, h⟩ := gd h
        obtain ⟨g26, h⟩ := gd h
        refine r_aaload (pc := 107) dX11_plant_107 g25 (by decide) g26 ?_
        refine r_bipush (pc := 108) dX11_plant_108 kc_bipush_16 ?_
        obtain ⟨r27, hc28, h⟩ := ob h
        refine r_callS1 (pc := 110) (av := [vR (R8 a24 (Int32.toNatClampNeg x5)), vI (16 : Int32)]) (S := []) dX11_plant_110 (kX11_goesFor hc28) mkX11_164 mwX11_goesFor rfl ⟨Nat.le_of_ble_eq_true rfl, Nat.le_of_ble_eq_true rfl⟩ (Nat.le_of_ble_eq_true rfl) ⟨Nat.le_refl _, Nat.le_refl _⟩ (fun b => b) ?_
        refine r_if_eq (pc := 113) (tgt := 131) dX11_plant_113 rfl (fun c => ?_) (fun c => ?_)
        · have h := it h c
          refine r_aload_n (pc := 131) dX11_plant_131 rfl 1 rfl ?_
          refine r_iconst (pc := 132) dX11_plant_132 kc_iconst_4 ?_
          obtain ⟨⟨I29, r30⟩, hc31, h⟩ := ob h
          refine r_callV1 (pc := 133) (av := [vI (4 : Int32)]) (S := []) dX11_plant_133 (kX11_fail hc31) g23 rfl mkX11_87 mwX11_fail rfl ⟨Nat.le_of_ble_eq_true rfl, Nat.le_of_ble_eq_true rfl⟩ (Nat.le_of_ble_eq_true rfl) ⟨Nat.le_refl _, Nat.le_refl _⟩ (fun b => b) ?_
          cases h
          exact r_iret dX11_plant_136
        · have h := ie h c
          refine r_aload_n (pc := 116) dX11_plant_116 rfl 1 rfl ?_
          refine r_getS (pc := 117) dX11_plant_117 fgX11_20 rfl g23 ha24 ?_
          refine r_iload (pc := 120) dX11_plant_120 7 rfl ?_
          obtain ⟨g32, h⟩ := gd h
          refine r_aaload (pc := 122) dX11_plant_122 g25 (by decide) g32 ?_
          refine r_bipush (pc := 123) dX11_plant_123 kc_bipush_16 ?_
          obtain ⟨r33, hc34, h⟩ := ob h
          refine r_callS1 (pc := 125) (av := [vR (R8 a24 (Int32.toNatClampNeg x6)), vI (16 : Int32)]) (S := []) dX11_plant_125 (kX11_goesFor hc34) mkX11_164 mwX11_goesFor rfl ⟨Nat.le_of_ble_eq_true rfl, Nat.le_of_ble_eq_true rfl⟩ (Nat.le_of_ble_eq_true rfl) ⟨Nat.le_refl _, Nat.le_refl _⟩ (fun b => b) ?_
          refine r_ifne (pc := 128) (tgt := 137) dX11_plant_128 rfl (fun c => ?_) (fun c => ?_)
          · have h := ie h c
            refine r_aload (pc := 137) dX11_plant_137 0 rfl ?_
            refine r_iconst (pc := 139) dX11_plant_139 kc_iconst_1 ?_
            refine r_aload_n (pc := 140) dX11_plant_140 rfl 1 rfl ?_
            refine r_getS (pc := 141) dX11_plant_141 fgX11_20 rfl g23 ha24 ?_
            refine r_iload (pc := 144) dX11_plant_144 6 rfl ?_
            refine r_aaload (pc := 146) dX11_plant_146 g25 (by decide) g26 ?_
            obtain ⟨r35, hc36, h⟩ := ob h
            refine r_callS1 (pc := 147) (av := [vR (R8 a24 (Int32.toNatClampNeg x5))]) (S := [vI (1 : Int32), vR (some s0)]) dX11_plant_147 (kX11_depthOf hc36) mkX11_218 mwX11_depthOf rfl ⟨Nat.le_of_ble_eq_true rfl, Nat.le_of_ble_eq_true rfl⟩ (Nat.le_of_ble_eq_true rfl) ⟨Nat.le_refl _, Nat.le_refl _⟩ (fun b => b) ?_
            refine r_aload_n (pc := 150) dX11_plant_150 rfl 1 rfl ?_
            refine r_getS (pc := 151) dX11_plant_151 fgX11_20 rfl g23 ha24 ?_
            refine r_iload (pc := 154) dX11_plant_154 7 rfl ?_
            refine r_aaload (pc := 156) dX11_plant_156 g25 (by decide) g32 ?_
            obtain ⟨r37, hc38, h⟩ := ob h
            refine r_callS1 (pc := 157) (av := [vR (R8 a24 (Int32.toNatClampNeg x6))]) (S := [vI r35, vI (1 : Int32), vR (some s0)]) dX11_plant_157 (kX11_depthOf hc38) mkX11_218 mwX11_depthOf rfl ⟨Nat.le_of_ble_eq_true rfl, Nat.le_of_ble_eq_true rfl⟩ (Nat.le_of_ble_eq_true rfl) ⟨Nat.le_refl _, Nat.le_refl _⟩ (fun b => b) ?_
            refine r_callS1 (pc := 160) (av := [vI r35, vI r37]) (S := [vI (1 : Int32), vR (some s0)]) dX11_plant_160 (kXM_maxI rfl) mkX11_222 mwXM_maxI rfl ⟨Nat.le_of_ble_eq_true rfl, Nat.le_of_ble_eq_true rfl⟩ (Nat.le_of_ble_eq_true rfl) ⟨Nat.le_refl _, Nat.le_refl _⟩ (fun b => b) ?_
            refine r_iadd (pc := 163) dX11_plant_163 ?_
            obtain ⟨g39, h⟩ := gd h
            refine r_putI (pc := 164) dX11_plant_164 fwX11_228 rfl g39 ?_
            refine r_aload (pc := 167) dX11_plant_167 0 rfl ?_
            refine r_getI (pc := 169) dX11_plant_169 fgX11_228 rfl g39 ?_
            refine r_iconst (pc := 172) dX11_plant_172 kc_iconst_4 ?_
            refine r_icmp_le (pc := 173) (tgt := 179) dX11_plant_173 rfl (fun c => ?_) (fun c => ?_)
            · have h := it h c
              refine r_aload (pc := 179) dX11_plant_179 0 rfl ?_
              obtain ⟨a41, ha41, h⟩ := ob h
              refine r_getS (pc := 181) dX11_plant_181 fgX11_101 rfl g39 ha41 ?_
              refine r_iconst (pc := 184) dX11_plant_184 kc_iconst_0 ?_
              refine r_aload_n (pc := 185) dX11_plant_185 rfl 1 rfl ?_
              refine r_getS (pc := 186) dX11_plant_186 fgX11_20 rfl g23 ha24 ?_
              refine r_iload (pc := 189) dX11_plant_189 6 rfl ?_
              refine r_aaload (pc := 191) dX11_plant_191 g25 (by decide) g26 ?_
              obtain ⟨g42, h⟩ := gd h
              obtain ⟨g43, h⟩ := gd h
              obtain ⟨g44, h⟩ := gd h
              refine r_aastore (c := 10) (pc := 192) dX11_plant_192 g42 (by decide) g43 g44 ?_
              refine r_aload (pc := 193) dX11_plant_193 0 rfl ?_
              obtain ⟨a46, ha46, h⟩ := ob h
              refine r_getS (pc := 195) dX11_plant_195 fgX11_101 rfl g39 ha46 ?_
              refine r_iconst (pc := 198) dX11_plant_198 kc_iconst_1 ?_
              refine r_aload_n (pc := 199) dX11_plant_199 rfl 1 rfl ?_
              obtain ⟨a47, ha47, h⟩ := ob h
              refine r_getS (pc := 200) dX11_plant_200 fgX11_20 rfl g23 ha47 ?_
              refine r_iload (pc := 203) dX11_plant_203 7 rfl ?_
              obtain ⟨g48, h⟩ := gd h
              obtain ⟨g49, h⟩ := gd h
              refine r_aaload (pc := 205) dX11_plant_205 g48 (by decide) g49 ?_
              obtain ⟨g50, h⟩ := gd h
              obtain ⟨g51, h⟩ := gd h
              obtain ⟨g52, h⟩ := gd h
              refine r_aastore (c := 10) (pc := 206) dX11_plant_206 g50 (by decide) g51 g52 ?_
              refine r_sub [1, 2, 3, 4, 5, 0] rfl ?_
              exact wX11_plant_b207 h
            · have h := ie h c
              refine r_bipush (pc := 176) dX11_plant_176 kc_bipush_m4 ?_
              cases h
              exact r_iret dX11_plant_178
          · have h := it h c
            refine r_aload_n (pc := 131) dX11_plant_131 rfl 1 rfl ?_
            refine r_iconst (pc := 132) dX11_plant_132 kc_iconst_4 ?_
            obtain ⟨⟨I54, r55⟩, hc56, h⟩ := ob h
            refine r_callV1 (pc := 133) (av := [vI (4 : Int32)]) (S := []) dX11_plant_133 (kX11_fail hc56) g23 rfl mkX11_87 mwX11_fail rfl ⟨Nat.le_of_ble_eq_true rfl, Nat.le_of_ble_eq_true rfl⟩ (Nat.le_of_ble_eq_true rfl) ⟨Nat.le_refl _, Nat.le_refl _⟩ (fun b => b) ?_
            cases h
            exact r_iret dX11_plant_136
def fX11_plant_b56  (t : Nat) (σ : Shp) (I : Nat → Nat → Int32) (R : Nat → Nat → Option Nat) (x1 : Int32) (x2 : Int32) (x3 : Int32) (x4 : Int32) (x5 : Int32) (x6 : Int32) (s0 : Nat) : Option ((Shp) × (Nat → Nat → Int32) × (Nat → Nat → Option Nat) × (Int32)) :=
  if x2 = (2 : Int32) then
    let σ57 := mkA σ 26 (Int32.toNatClampNeg (2 : Int32))
    fX11_plant_b75 t σ57 I R x1 x2 x3 x4 x5 x6 s0 s0 (16 : Int32) 0 (nxx σ + 4)
  else
    let σ5 := mkA σ 26 (Int32.toNatClampNeg (0 : Int32))
    fX11_plant_b75 t σ5 I R x1 x2 x3 x4 x5 x6 s0 s0 (16 : Int32) 0 (nxx σ + 4)
theorem mX11_plant_b56 {σ : Shp} {I : Nat → Nat → Int32} {R : Nat → Nat → Option Nat} {t : Nat} {σ9 : Shp} {I9 : Nat → Nat → Int32} {R9 : Nat → Nat → Option Nat} {r9 : Int32} {x1 : Int32} {x2 : Int32} {x3 : Int32} {x4 : Int32} {x5 : Int32} {x6 : Int32} {s0 : Nat} (h : fX11_plant_b56 t σ I R x1 x2 x3 x4 x5 x6 s0 = some (σ9, I9, R9, r9)) : Lex σ σ9 := by
  unfold fX11_plant_b56 at h
  rcases itc h with ⟨c, h⟩ | ⟨c, h⟩
  · exact Lex_mkA (mX11_plant_b75 h)
  · exact Lex_mkA (mX11_plant_b75 h)
theorem wX11_plant_b56 {G : Gx} {l : Launch} {σ0 : Shp} {σ : Shp} {I : Nat → Nat → Int32} {J : Nat → Nat → Int64} {D : Nat → Nat → UInt64} {R : Nat → Nat → Option Nat} {t : Nat} {σ9 : Shp} {I9 : Nat → Nat → Int32} {R9 : Nat → Nat → Option Nat} {r9 : Int32} {x1 : Int32} {x2 : Int32} {x3 : Int32} {x4 : Int32} {x5 : Int32} {x6 : Int32} {s0 : Nat} (h : fX11_plant_b56 t σ I R x1 x2 x3 x4 x5 x6 s0 = some (σ9, I9, R9, r9)) : WX11_plant G l σ0 (σ9, I9, J, D, R9) (some (vI r9)) (σ, I, J, D, R) 56 [(0, vR (some t)), (1, vI x1), (2, vI x2), (3, vI x3), (4, vI x4), (5, vI x5), (6, vI x6)] [vR (some s0)] := by
  unfold fX11_plant_b56 at h
  refine r_dup (pc := 56) dX11_plant_56 rfl ?_
  refine r_bipush (pc := 57) dX11_plant_57 kc_bipush_16 ?_
  refine r_gets0 (pc := 59) dX11_plant_59 gsX11_212 ?_
  refine r_iload_n (pc := 62) dX11_plant_62 rfl 2 rfl ?_
  refine r_iconst (pc := 63) dX11_plant_63 kc_iconst_2 ?_
  refine r_icmp_ne (pc := 64) (tgt := 71) dX11_plant_64 rfl (fun c => ?_) (fun c => ?_)
  · have h := ie h c
    refine r_iconst (pc := 71) dX11_plant_71 kc_iconst_0 ?_
    refine r_anewa (pc := 72) (t := 26) dX11_plant_72 (by decide) cnX11_102 (by decide) (by decide) (Nat.sub_le_sub_right (mX11_plant_b75 h).1 _) (Nat.sub_le_sub_right (mX11_plant_b75 h).2 _) ?_
    refine r_sub [0, 1, 2, 3, 4, 5, 6] rfl ?_
    exact wX11_plant_b75 h
  · have h := it h c
    refine r_iconst (pc := 67) dX11_plant_67 kc_iconst_2 ?_
    refine r_goto (pc := 68) (tgt := 72) dX11_plant_68 rfl ?_
    refine r_anewa (pc := 72) (t := 26) dX11_plant_72 (by decide) cnX11_102 (by decide) (by decide) (Nat.sub_le_sub_right (mX11_plant_b75 h).1 _) (Nat.sub_le_sub_right (mX11_plant_b75 h).2 _) ?_
    refine r_sub [0, 1, 2, 3, 4, 5, 6] rfl ?_
    exact wX11_plant_b75 h
def fX11_plant (σ : Shp) (I : Nat → Nat → Int32) (R : Nat → Nat → Option Nat) (t : Nat) (x1 : Int32) (x2 : Int32) (x3 : Int32) (x4 : Int32) (x5 : Int32) (x6 : Int32) : Option ((Shp) × (Nat → Nat → Int32) × (Nat → Nat → Option Nat) × (Int32)) :=
  if (fX11_isBin x1) = 0 then
    some (σ, I, R, (-2 : Int32))
  else
    if x2 < 0 then
      some (σ, I, R, (-2 : Int32))
    else
      if x2 ≤ (5 : Int32) then
        if x2 = (2 : Int32) then
          if (fX11_isBin x5) = 0 then
            some (σ, I, R, (-2 : Int32))
          else
            if (fX11_isBin x6) = 0 then
              some (σ, I, R, (-2 : Int32))
            else
              if kdx σ t = 12 then
              (fX11_isFull σ I t).bind fun r59 =>
              if r59 = 0 then
                let σ61 := mkO σ 11 9
                fX11_plant_b56 t σ61 I R x1 x2 x3 x4 x5 x6 (nxx σ + 4)
              else
                some (σ, I, R, (-4 : Int32))
              else none
        else
          if kdx σ t = 12 then
          (fX11_isFull σ I t).bind fun r2 =>
          if r2 = 0 then
            let σ4 := mkO σ 11 9
            fX11_plant_b56 t σ4 I R x1 x2 x3 x4 x5 x6 (nxx σ + 4)
          else
            some (σ, I, R, (-4 : Int32))
          else none
      else
        some (σ, I, R, (-2 : Int32))
theorem mX11_plant {σ : Shp} {I : Nat → Nat → Int32} {R : Nat → Nat → Option Nat} {t : Nat} {x1 : Int32} {x2 : Int32} {x3 : Int32} {x4 : Int32} {x5 : Int32} {x6 : Int32} {σ9 : Shp} {I9 : Nat → Nat → Int32} {R9 : Nat → Nat → Option Nat} {r9 : Int32} (h : fX11_plant σ I R t x1 x2 x3 x4 x5 x6 = some (σ9, I9, R9, r9)) : Lex σ σ9 := by
  unfold fX11_plant at h
  rcases itc h with ⟨c, h⟩ | ⟨c, h⟩
  · cases h
    exact ⟨Nat.le_refl _, Nat.le_refl _⟩
  · rcases itc h with ⟨c, h⟩ | ⟨c, h⟩
    · cases h
      exact ⟨Nat.le_refl _, Nat.le_refl _⟩
    · rcases itc h with ⟨c, h⟩ | ⟨c, h⟩
      · rcases itc h with ⟨c, h⟩ | ⟨c, h⟩
        · rcases itc h with ⟨c, h⟩ | ⟨c, h⟩
          · cases h
            exact ⟨Nat.le_refl _, Nat.le_refl _⟩
          · rcases itc h with ⟨c, h⟩ | ⟨c, h⟩
            · cases h
              exact ⟨Nat.le_refl _, Nat.le_refl _⟩
            · replace h := (gd h).2
              obtain ⟨r59, hc60, h⟩ := ob h
              rcases itc h with ⟨c, h⟩ | ⟨c, h⟩
              · exact Lex_mkO (mX11_plant_b56 h)
              · cases h
                exact ⟨Nat.le_refl _, Nat.le_refl _⟩
        · replace h := (gd h).2
          obtain ⟨r2, hc3, h⟩ := ob h
          rcases itc h with ⟨c, h⟩ | ⟨c, h⟩
          · exact Lex_mkO (mX11_plant_b56 h)
          · cases h
            exact ⟨Nat.le_refl _, Nat.le_refl _⟩
      · cases h
        exact ⟨Nat.le_refl _, Nat.le_refl _⟩
theorem kX11_plant {G : Gx} {l : Launch} {σ : Shp} {I : Nat → Nat → Int32} {J : Nat → Nat → Int64} {D : Nat → Nat → UInt64} {R : Nat → Nat → Option Nat} {t : Nat} {x1 : Int32} {x2 : Int32} {x3 : Int32} {x4 : Int32} {x5 : Int32} {x6 : Int32} {σ9 : Shp} {I9 : Nat → Nat → Int32} {R9 : Nat → Nat → Option Nat} {r9 : Int32} (h : fX11_plant σ I R t x1 x2 x3 x4 x5 x6 = some (σ9, I9, R9, r9)) : Con G l yX11_plant cX11_plant 8 (some .int) 2 43 [vR (some t), vI x1, vI x2, vI x3, vI x4, vI x5, vI x6] (σ, I, J, D, R) (σ9, I9, J, D, R9) (some (vI r9)) := by
  unfold fX11_plant at h
  refine Con.mk (by decide +kernel) rfl (Nat.le_of_ble_eq_true rfl) ?_
  show WX11_plant G l σ (σ9, I9, J, D, R9) (some (vI r9)) (σ, I, J, D, R) 0 _ []
  refine r_iload_n (pc := 0) dX11_plant_0 rfl 1 rfl ?_
  refine r_callS1 (pc := 1) (av := [vI x1]) (S := []) dX11_plant_1 (kX11_isBin rfl) mkX11_76 mwX11_isBin rfl ⟨Nat.le_of_ble_eq_true rfl, Nat.le_of_ble_eq_true rfl⟩ (Nat.le_of_ble_eq_true rfl) ⟨Nat.le_refl _, Nat.le_refl _⟩ (fun b => b) ?_
  refine r_if_eq (pc := 4) (tgt := 16) dX11_plant_4 rfl (fun c => ?_) (fun c => ?_)
  · have h := it h c
    refine r_bipush (pc := 16) dX11_plant_16 kc_bipush_m2 ?_
    cases h
    exact r_iret dX11_plant_18
  · have h := ie h c
    refine r_iload_n (pc := 7) dX11_plant_7 rfl 2 rfl ?_
    refine r_if_lt (pc := 8) (tgt := 16) dX11_plant_8 rfl (fun c => ?_) (fun c => ?_)
    · have h := it h c
      refine r_bipush (pc := 16) dX11_plant_16 kc_bipush_m2 ?_
      cases h
      exact r_iret dX11_plant_18
    · have h := ie h c
      refine r_iload_n (pc := 11) dX11_plant_11 rfl 2 rfl ?_
      refine r_iconst (pc := 12) dX11_plant_12 kc_iconst_5 ?_
      refine r_icmp_le (pc := 13) (tgt := 19) dX11_plant_13 rfl (fun c => ?_) (fun c => ?_)
      · have h := it h c
        refine r_iload_n (pc := 19) dX11_plant_19 rfl 2 rfl ?_
        refine r_iconst (pc := 20) dX11_plant_20 kc_iconst_2 ?_
        refine r_icmp_ne (pc := 21) (tgt := 43) dX11_plant_21 rfl (fun c => ?_) (fun c => ?_)
        · have h := ie h c
          refine r_aload_n (pc := 43) dX11_plant_43 rfl 0 rfl ?_
          obtain ⟨g1, h⟩ := gd h
          obtain ⟨r2, hc3, h⟩ := ob h
          refine r_callV1 (pc := 44) (av := []) (S := []) dX11_plant_44 (kX11_isFull hc3) g1 rfl mkX11_83 mwX11_isFull rfl ⟨Nat.le_of_ble_eq_true rfl, Nat.le_of_ble_eq_true rfl⟩ (Nat.le_of_ble_eq_true rfl) ⟨Nat.le_refl _, Nat.le_refl _⟩ (fun b => b) ?_
          refine r_if_eq (pc := 47) (tgt := 53) dX11_plant_47 rfl (fun c => ?_) (fun c => ?_)
          · have h := it h c
            refine r_new (pc := 53) dX11_plant_53 cls10 ftk10 cnX11_102 ins10 ini10 (Nat.sub_le_sub_right (mX11_plant_b56 h).1 _) (Nat.sub_le_sub_right (mX11_plant_b56 h).2 _) ?_
            refine r_sub [0, 1, 2, 3, 4, 5, 6] rfl ?_
            exact wX11_plant_b56 h
          · have h := ie h c
            refine r_bipush (pc := 50) dX11_plant_50 kc_bipush_m4 ?_
            cases h
            exact r_iret dX11_plant_52
        · have h := it h c
          refine r_iload (pc := 24) dX11_plant_24 5 rfl ?_
          refine r_callS1 (pc := 26) (av := [vI x5]) (S := []) dX11_plant_26 (kX11_isBin rfl) mkX11_76 mwX11_isBin rfl ⟨Nat.le_of_ble_eq_true rfl, Nat.le_of_ble_eq_true rfl⟩ (Nat.le_of_ble_eq_true rfl) ⟨Nat.le_refl _, Nat.le_refl _⟩ (fun b => b) ?_
          refine r_if_eq (pc := 29) (tgt := 40) dX11_plant_29 rfl (fun c => ?_) (fun c => ?_)
          · have h := it h c
            refine r_bipush (pc := 40) dX11_plant_40 kc_bipush_m2 ?_
            cases h
            exact r_iret dX11_plant_42
          · have h := ie h c
            refine r_iload (pc := 32) dX11_plant_32 6 rfl ?_
            refine r_callS1 (pc := 34) (av := [vI x6]) (S := []) dX11_plant_34 (kX11_isBin rfl) mkX11_76 mwX11_isBin rfl ⟨Nat.le_of_ble_eq_true rfl, Nat.le_of_ble_eq_true rfl⟩ (Nat.le_of_ble_eq_true rfl) ⟨Nat.le_refl _, Nat.le_refl _⟩ (fun b => b) ?_
            refine r_ifne (pc := 37) (tgt := 43) dX11_plant_37 rfl (fun c => ?_) (fun c => ?_)
            · have h := ie h c
              refine r_aload_n (pc := 43) dX11_plant_43 rfl 0 rfl ?_
              obtain ⟨g58, h⟩ := gd h
              obtain ⟨r59, hc60, h⟩ := ob h
              refine r_callV1 (pc := 44) (av := []) (S := []) dX11_plant_44 (kX11_isFull hc60) g58 rfl mkX11_83 mwX11_isFull rfl ⟨Nat.le_of_ble_eq_true rfl, Nat.le_of_ble_eq_true rfl⟩ (Nat.le_of_ble_eq_true rfl) ⟨Nat.le_refl _, Nat.le_refl _⟩ (fun b => b) ?_
              refine r_if_eq (pc := 47) (tgt := 53) dX11_plant_47 rfl (fun c => ?_) (fun c => ?_)
              · have h := it h c
                refine r_new (pc := 53) dX11_plant_53 cls10 ftk10 cnX11_102 ins10 ini10 (Nat.sub_le_sub_right (mX11_plant_b56 h).1 _) (Nat.sub_le_sub_right (mX11_plant_b56 h).2 _) ?_
                refine r_sub [0, 1, 2, 3, 4, 5, 6] rfl ?_
                exact wX11_plant_b56 h
              · have h := ie h c
                refine r_bipush (pc := 50) dX11_plant_50 kc_bipush_m4 ?_
                cases h
                exact r_iret dX11_plant_52
            · have h := it h c
              refine r_bipush (pc := 40) dX11_plant_40 kc_bipush_m2 ?_
              cases h
              exact r_iret dX11_plant_42
      · have h := ie h c
        refine r_bipush (pc := 16) dX11_plant_16 kc_bipush_m2 ?_
        cases h
        exact r_iret dX11_plant_18
abbrev WX11_tray (G : Gx) (l : Launch) (σ0 : Shp) (X1 : Stt) (rv : Option SV) : Stt → Nat → List (Nat × SV) → List SV → Prop := Wm G l yX11_tray cX11_tray 4 (some .int) (fun _ => True) (rmx 4 88 σ0 X1.1) σ0 (Qmx G σ0 X1 rv)
def fX11_tray_b30  (σ : Shp) (I : Nat → Nat → Int32) (R : Nat → Nat → Option Nat) (s0 : Int32) : Option ((Shp) × (Nat → Nat → Int32) × (Nat → Nat → Option Nat) × (Int32)) :=
  some (σ, I, R, s0)
theorem mX11_tray_b30 {σ : Shp} {I : Nat → Nat → Int32} {R : Nat → Nat → Option Nat} {σ9 : Shp} {I9 : Nat → Nat → Int32} {R9 : Nat → Nat → Option Nat} {r9 : Int32} {s0 : Int32} (h : fX11_tray_b30 σ I R s0 = some (σ9, I9, R9, r9)) : Lex σ σ9 := by
  unfold fX11_tray_b30 at h
  cases h
  exact ⟨Nat.le_refl _, Nat.le_refl _⟩
theorem wX11_tray_b30 {G : Gx} {l : Launch} {σ0 : Shp} {σ : Shp} {I : Nat → Nat → Int32} {J : Nat → Nat → Int64} {D : Nat → Nat → UInt64} {R : Nat → Nat → Option Nat} {σ9 : Shp} {I9 : Nat → Nat → Int32} {R9 : Nat → Nat → Option Nat} {r9 : Int32} {s0 : Int32} (h : fX11_tray_b30 σ I R s0 = some (σ9, I9, R9, r9)) : WX11_tray G l σ0 (σ9, I9, J, D, R9) (some (vI r9)) (σ, I, J, D, R) 30 [] [vI s0] := by
  unfold fX11_tray_b30 at h
  cases h
  exact r_iret dX11_tray_30
def fX11_tray (σ : Shp) (I : Nat → Nat → Int32) (R : Nat → Nat → Option Nat) (t : Nat) (x1 : Int32) (x2 : Int32) (x3 : Int32) : Option ((Shp) × (Nat → Nat → Int32) × (Nat → Nat → Option Nat) × (Int32)) :=
  if (fX11_isBin x1) = 0 then
    some (σ, I, R, (-2 : Int32))
  else
    if (fX11_isTrayForm x2) = 0 then
      some (σ, I, R, (-2 : Int32))
    else
      if x3 ≤ (8 : Int32) then
        if kdx σ t = 12 then
        (fX11_intoBin σ I R t x1 x2 x3).bind fun (σ2, I3, R4, r5) =>
        fX11_tray_b30 σ2 I3 R4 r5
        else none
      else
        some (σ, I, R, (-2 : Int32))
theorem mX11_tray {σ : Shp} {I : Nat → Nat → Int32} {R : Nat → Nat → Option Nat} {t : Nat} {x1 : Int32} {x2 : Int32} {x3 : Int32} {σ9 : Shp} {I9 : Nat → Nat → Int32} {R9 : Nat → Nat → Option Nat} {r9 : Int32} (h : fX11_tray σ I R t x1 x2 x3 = some (σ9, I9, R9, r9)) : Lex σ σ9 := by
  unfold fX11_tray at h
  rcases itc h with ⟨c, h⟩ | ⟨c, h⟩
  · cases h
    exact ⟨Nat.le_refl _, Nat.le_refl _⟩
  · rcases itc h with ⟨c, h⟩ | ⟨c, h⟩
    · cases h
      exact ⟨Nat.le_refl _, Nat.le_refl _⟩
    · rcases itc h with ⟨c, h⟩ | ⟨c, h⟩
      · replace h := (gd h).2
        obtain ⟨⟨σ2, I3, R4, r5⟩, hc6, h⟩ := ob h
        refine Lex.trans (mX11_intoBin hc6) ?_
        exact mX11_tray_b30 h
      · cases h
        exact ⟨Nat.le_refl _, Nat.le_refl _⟩
theorem kX11_tray {G : Gx} {l : Launch} {σ : Shp} {I : Nat → Nat → Int32} {J : Nat → Nat → Int64} {D : Nat → Nat → UInt64} {R : Nat → Nat → Option Nat} {t : Nat} {x1 : Int32} {x2 : Int32} {x3 : Int32} {σ9 : Shp} {I9 : Nat → Nat → Int32} {R9 : Nat → Nat → Option Nat} {r9 : Int32} (h : fX11_tray σ I R t x1 x2 x3 = some (σ9, I9, R9, r9)) : Con G l yX11_tray cX11_tray 4 (some .int) 4 88 [vR (some t), vI x1, vI x2, vI x3] (σ, I, J, D, R) (σ9, I9, J, D, R9) (some (vI r9)) := by
  unfold fX11_tray at h
  refine Con.mk (by decide +kernel) rfl (Nat.le_of_ble_eq_true rfl) ?_
  show WX11_tray G l σ (σ9, I9, J, D, R9) (some (vI r9)) (σ, I, J, D, R) 0 _ []
  refine r_iload_n (pc := 0) dX11_tray_0 rfl 1 rfl ?_
  refine r_callS1 (pc := 1) (av := [vI x1]) (S := []) dX11_tray_1 (kX11_isBin rfl) mkX11_76 mwX11_isBin rfl ⟨Nat.le_of_ble_eq_true rfl, Nat.le_of_ble_eq_true rfl⟩ (Nat.le_of_ble_eq_true rfl) ⟨Nat.le_refl _, Nat.le_refl _⟩ (fun b => b) ?_
  refine r_if_eq (pc := 4) (tgt := 20) dX11_tray_4 rfl (fun c => ?_) (fun c => ?_)
  · have h := it h c
    refine r_bipush (pc := 20) dX11_tray_20 kc_bipush_m2 ?_
    cases h
    exact r_iret dX11_tray_22
  · have h := ie h c
    refine r_iload_n (pc := 7) dX11_tray_7 rfl 2 rfl ?_
    refine r_callS1 (pc := 8) (av := [vI x2]) (S := []) dX11_tray_8 (kX11_isTrayForm rfl) mkX11_120 mwX11_isTrayForm rfl ⟨Nat.le_of_ble_eq_true rfl, Nat.le_of_ble_eq_true rfl⟩ (Nat.le_of_ble_eq_true rfl) ⟨Nat.le_refl _, Nat.le_refl _⟩ (fun b => b) ?_
    refine r_if_eq (pc := 11) (tgt := 20) dX11_tray_11 rfl (fun c => ?_) (fun c => ?_)
    · have h := it h c
      refine r_bipush (pc := 20) dX11_tray_20 kc_bipush_m2 ?_
      cases h
      exact r_iret dX11_tray_22
    · have h := ie h c
      refine r_iload_n (pc := 14) dX11_tray_14 rfl 3 rfl ?_
      refine r_bipush (pc := 15) dX11_tray_15 kc_bipush_8 ?_
      refine r_icmp_le (pc := 17) (tgt := 23) dX11_tray_17 rfl (fun c => ?_) (fun c => ?_)
      · have h := it h c
        refine r_aload_n (pc := 23) dX11_tray_23 rfl 0 rfl ?_
        refine r_iload_n (pc := 24) dX11_tray_24 rfl 1 rfl ?_
        refine r_iload_n (pc := 25) dX11_tray_25 rfl 2 rfl ?_
        refine r_iload_n (pc := 26) dX11_tray_26 rfl 3 rfl ?_
        obtain ⟨g1, h⟩ := gd h
        obtain ⟨⟨σ2, I3, R4, r5⟩, hc6, h⟩ := ob h
        refine r_callV1 (pc := 27) (av := [vI x1, vI x2, vI x3]) (S := []) dX11_tray_27 (kX11_intoBin hc6) g1 rfl mkX11_109 mwX11_intoBin rfl ⟨Nat.le_of_ble_eq_true rfl, Nat.le_of_ble_eq_true rfl⟩ (Nat.le_of_ble_eq_true rfl) (mX11_intoBin hc6) (bdx_le (mX11_intoBin hc6) (mX11_tray_b30 h)) ?_
        refine r_sub [] rfl ?_
        exact wX11_tray_b30 h
      · have h := ie h c
        refine r_bipush (pc := 20) dX11_tray_20 kc_bipush_m2 ?_
        cases h
        exact r_iret dX11_tray_22
abbrev WX11_ask (G : Gx) (l : Launch) (σ0 : Shp) (X1 : Stt) (rv : Option SV) : Stt → Nat → List (Nat × SV) → List SV → Prop := Wm G l yX11_ask cX11_ask 5 (some .int) (fun _ => True) (rmx 12 283 σ0 X1.1) σ0 (Qmx G σ0 X1 rv)
def fX11_ask (σ : Shp) (I : Nat → Nat → Int32) (R : Nat → Nat → Option Nat) (t : Nat) (x1 : Int32) (x2 : Int32) : Option ((Nat → Nat → Int32) × (Int32)) :=
  if (fX11_isBin x1) = 0 then
    some (I, (-2 : Int32))
  else
    if x2 < 0 then
      some (I, (-2 : Int32))
    else
      if x2 ≤ (7 : Int32) then
        if kdx σ t = 12 then
        ((R t 2) : Option Nat).bind fun a2 =>
        if kdx σ a2 = 1 then
        (fX0_beginAsk σ I a2).bind fun I4 =>
        ((R t 1) : Option Nat).bind fun a6 =>
        if kdx σ a6 = 26 then
        if ¬ (x1 < 0 ∨ lnx σ a6 ≤ Int32.toNatClampNeg x1) then
        let v9 := (R a6 (Int32.toNatClampNeg x1))
        (fX0_tell σ I4 R a2 v9 x2).bind fun (I10, r11) =>
        if (I10 a2 2) = 0 then
          let I13 := u2 I10 t 18 r11
          some (I13, (1 : Int32))
        else
          (fX11_fail σ I10 t (I10 a2 2)).bind fun (I14, r15) =>
          some (I14, r15)
        else none
        else none
        else none
        else none
      else
        some (I, (-2 : Int32))
theorem kX11_ask {G : Gx} {l : Launch} {σ : Shp} {I : Nat → Nat → Int32} {J : Nat → Nat → Int64} {D : Nat → Nat → UInt64} {R : Nat → Nat → Option Nat} {t : Nat} {x1 : Int32} {x2 : Int32} {I9 : Nat → Nat → Int32} {r9 : Int32} (h : fX11_ask σ I R t x1 x2 = some (I9, r9)) : Con G l yX11_ask cX11_ask 5 (some .int) 12 283 [vR (some t), vI x1, vI x2] (σ, I, J, D, R) (σ, I9, J, D, R) (some (vI r9)) := by
  unfold fX11_ask at h
  refine Con.mk (by decide +kernel) rfl (Nat.le_of_ble_eq_true rfl) ?_
  show WX11_ask G l σ (σ, I9, J, D, R) (some (vI r9)) (σ, I, J, D, R) 0 _ []
  refine r_iload_n (pc := 0) dX11_ask_0 rfl 1 rfl ?_
  refine r_callS1 (pc := 1) (av := [vI x1]) (S := []) dX11_ask_1 (kX11_isBin rfl) mkX11_76 mwX11_isBin rfl ⟨Nat.le_of_ble_eq_true rfl, Nat.le_of_ble_eq_true rfl⟩ (Nat.le_of_ble_eq_true rfl) ⟨Nat.le_refl _, Nat.le_refl _⟩ (fun b => b) ?_
  refine r_if_eq (pc := 4) (tgt := 17) dX11_ask_4 rfl (fun c => ?_) (fun c => ?_)
  · have h := it h c
    refine r_bipush (pc := 17) dX11_ask_17 kc_bipush_m2 ?_
    cases h
    exact r_iret dX11_ask_19
  · have h := ie h c
    refine r_iload_n (pc := 7) dX11_ask_7 rfl 2 rfl ?_
    refine r_if_lt (pc := 8) (tgt := 17) dX11_ask_8 rfl (fun c => ?_) (fun c => ?_)
    · have h := it h c
      refine r_bipush (pc := 17) dX11_ask_17 kc_bipush_m2 ?_
      cases h
      exact r_iret dX11_ask_19
    · have h := ie h c
      refine r_iload_n (pc := 11) dX11_ask_11 rfl 2 rfl ?_
      refine r_bipush (pc := 12) dX11_ask_12 kc_bipush_7 ?_
      refine r_icmp_le (pc := 14) (tgt := 20) dX11_ask_14 rfl (fun c => ?_) (fun c => ?_)
      · have h := it h c
        refine r_aload_n (pc := 20) dX11_ask_20 rfl 0 rfl ?_
        obtain ⟨g1, h⟩ := gd h
        obtain ⟨a2, ha2, h⟩ := ob h
        refine r_getS (pc := 21) dX11_ask_21 fgX11_25 rfl g1 ha2 ?_
        obtain ⟨g3, h⟩ := gd h
        obtain ⟨I4, hc5, h⟩ := ob h
        refine r_callV0 (pc := 24) (av := []) (S := []) dX11_ask_24 (kX0_beginAsk hc5) g3 rfl mkX11_246 mwX0_beginAsk rfl ⟨Nat.le_of_ble_eq_true rfl, Nat.le_of_ble_eq_true rfl⟩ (Nat.le_of_ble_eq_true rfl) ⟨Nat.le_refl _, Nat.le_refl _⟩ (fun b => b) ?_
        refine r_aload_n (pc := 27) dX11_ask_27 rfl 0 rfl ?_
        obtain ⟨a6, ha6, h⟩ := ob h
        refine r_getS (pc := 28) dX11_ask_28 fgX11_20 rfl g1 ha6 ?_
        refine r_iload_n (pc := 31) dX11_ask_31 rfl 1 rfl ?_
        obtain ⟨g7, h⟩ := gd h
        obtain ⟨g8, h⟩ := gd h
        refine r_aaload (pc := 32) dX11_ask_32 g7 (by decide) g8 ?_
        refine r_astore_n (pc := 33) (L' := [(3, vR (R a6 (Int32.toNatClampNeg x1))), (0, vR (some t)), (1, vI x1), (2, vI x2)]) dX11_ask_33 rfl (by decide) rfl ?_
        refine r_aload_n (pc := 34) dX11_ask_34 rfl 1 rfl ?_
        refine r_getS (pc := 35) dX11_ask_35 fgX11_25 rfl g1 ha2 ?_
        refine r_aload_n (pc := 38) dX11_ask_38 rfl 0 rfl ?_
        refine r_iload_n (pc := 39) dX11_ask_39 rfl 3 rfl ?_
        obtain ⟨⟨I10, r11⟩, hc12, h⟩ := ob h
        refine r_callV1 (pc := 40) (av := [vR (R a6 (Int32.toNatClampNeg x1)), vI x2]) (S := []) dX11_ask_40 (kX0_tell hc12) g3 rfl mkX11_251 mwX0_tell rfl ⟨Nat.le_of_ble_eq_true rfl, Nat.le_of_ble_eq_true rfl⟩ (Nat.le_of_ble_eq_true rfl) ⟨Nat.le_refl _, Nat.le_refl _⟩ (fun b => b) ?_
        refine r_istore (pc := 43) (L' := [(4, vI r11), (3, vR (R a6 (Int32.toNatClampNeg x1))), (0, vR (some t)), (1, vI x1), (2, vI x2)]) dX11_ask_43 (by decide) rfl ?_
        refine r_aload_n (pc := 45) dX11_ask_45 rfl 2 rfl ?_
        refine r_getS (pc := 46) dX11_ask_46 fgX11_25 rfl g1 ha2 ?_
        refine r_getI (pc := 49) dX11_ask_49 fgX11_254 rfl g3 ?_
        refine r_if_eq (pc := 52) (tgt := 67) dX11_ask_52 rfl (fun c => ?_) (fun c => ?_)
        · have h := it h c
          refine r_aload_n (pc := 67) dX11_ask_67 rfl 2 rfl ?_
          refine r_iload (pc := 68) dX11_ask_68 0 rfl ?_
          refine r_putI (pc := 70) dX11_ask_70 fwX11_257 rfl g1 ?_
          refine r_iconst (pc := 73) dX11_ask_73 kc_iconst_1 ?_
          cases h
          exact r_iret dX11_ask_74
        · have h := ie h c
          refine r_aload_n (pc := 55) dX11_ask_55 rfl 2 rfl ?_
          refine r_aload_n (pc := 56) dX11_ask_56 rfl 2 rfl ?_
          refine r_getS (pc := 57) dX11_ask_57 fgX11_25 rfl g1 ha2 ?_
          refine r_getI (pc := 60) dX11_ask_60 fgX11_254 rfl g3 ?_
          obtain ⟨⟨I14, r15⟩, hc16, h⟩ := ob h
          refine r_callV1 (pc := 63) (av := [vI (I10 a2 2)]) (S := []) dX11_ask_63 (kX11_fail hc16) g1 rfl mkX11_87 mwX11_fail rfl ⟨Nat.le_of_ble_eq_true rfl, Nat.le_of_ble_eq_true rfl⟩ (Nat.le_of_ble_eq_true rfl) ⟨Nat.le_refl _, Nat.le_refl _⟩ (fun b => b) ?_
          cases h
          exact r_iret dX11_ask_66
      · have h := ie h c
        refine r_bipush (pc := 17) dX11_ask_17 kc_bipush_m2 ?_
        cases h
        exact r_iret dX11_ask_19
abbrev WX11_answer (G : Gx) (l : Launch) (σ0 : Shp) (X1 : Stt) (rv : Option SV) : Stt → Nat → List (Nat × SV) → List SV → Prop := Wm G l yX11_answer cX11_answer 1 (some .int) (fun _ => True) (rmx 0 0 σ0 X1.1) σ0 (Qmx G σ0 X1 rv)
def fX11_answer (σ : Shp) (I : Nat → Nat → Int32) (t : Nat)  : Option ((Int32)) :=
  if kdx σ t = 12 then
  some (I t 18)
  else none
theorem kX11_answer {G : Gx} {l : Launch} {σ : Shp} {I : Nat → Nat → Int32} {J : Nat → Nat → Int64} {D : Nat → Nat → UInt64} {R : Nat → Nat → Option Nat} {t : Nat}  {r9 : Int32} (h : fX11_answer σ I t = some r9) : Con G l yX11_answer cX11_answer 1 (some .int) 0 0 [vR (some t)] (σ, I, J, D, R) (σ, I, J, D, R) (some (vI r9)) := by
  unfold fX11_answer at h
  refine Con.mk (by decide +kernel) rfl (Nat.le_of_ble_eq_true rfl) ?_
  show WX11_answer G l σ (σ, I, J, D, R) (some (vI r9)) (σ, I, J, D, R) 0 _ []
  refine r_aload_n (pc := 0) dX11_answer_0 rfl 0 rfl ?_
  obtain ⟨g1, h⟩ := gd h
  refine r_getI (pc := 1) dX11_answer_1 fgX11_257 rfl g1 ?_
  cases h
  exact r_iret dX11_answer_4
abbrev WX11_trace (G : Gx) (l : Launch) (σ0 : Shp) (X1 : Stt) (rv : Option SV) : Stt → Nat → List (Nat × SV) → List SV → Prop := Wm G l yX11_trace cX11_trace 2 (some .int) (fun _ => True) (rmx 1 21 σ0 X1.1) σ0 (Qmx G σ0 X1 rv)
def fX11_trace (σ : Shp) (I : Nat → Nat → Int32) (R : Nat → Nat → Option Nat) (t : Nat) (x1 : Int32) : Option ((Int32)) :=
  if kdx σ t = 12 then
  ((R t 2) : Option Nat).bind fun a2 =>
  if kdx σ a2 = 1 then
  (fX0_traceAt σ I R a2 x1).bind fun r4 =>
  some r4
  else none
  else none
theorem kX11_trace {G : Gx} {l : Launch} {σ : Shp} {I : Nat → Nat → Int32} {J : Nat → Nat → Int64} {D : Nat → Nat → UInt64} {R : Nat → Nat → Option Nat} {t : Nat} {x1 : Int32} {r9 : Int32} (h : fX11_trace σ I R t x1 = some r9) : Con G l yX11_trace cX11_trace 2 (some .int) 1 21 [vR (some t), vI x1] (σ, I, J, D, R) (σ, I, J, D, R) (some (vI r9)) := by
  unfold fX11_trace at h
  refine Con.mk (by decide +kernel) rfl (Nat.le_of_ble_eq_true rfl) ?_
  show WX11_trace G l σ (σ, I, J, D, R) (some (vI r9)) (σ, I, J, D, R) 0 _ []
  refine r_aload_n (pc := 0) dX11_trace_0 rfl 0 rfl ?_
  obtain ⟨g1, h⟩ := gd h
  obtain ⟨a2, ha2, h⟩ := ob h
  refine r_getS (pc := 1) dX11_trace_1 fgX11_25 rfl g1 ha2 ?_
  refine r_iload_n (pc := 4) dX11_trace_4 rfl 1 rfl ?_
  obtain ⟨g3, h⟩ := gd h
  obtain ⟨r4, hc5, h⟩ := ob h
  refine r_callV1 (pc := 5) (av := [vI x1]) (S := []) dX11_trace_5 (kX0_traceAt hc5) g3 rfl mkX11_260 mwX0_traceAt rfl ⟨Nat.le_of_ble_eq_true rfl, Nat.le_of_ble_eq_true rfl⟩ (Nat.le_of_ble_eq_true rfl) ⟨Nat.le_refl _, Nat.le_refl _⟩ (fun b => b) ?_
  cases h
  exact r_iret dX11_trace_8
abbrev WX11_card (G : Gx) (l : Launch) (σ0 : Shp) (X1 : Stt) (rv : Option SV) : Stt → Nat → List (Nat × SV) → List SV → Prop := Wm G l yX11_card cX11_card 3 (some .int) (fun _ => True) (rmx 3 64 σ0 X1.1) σ0 (Qmx G σ0 X1 rv)
def fX11_card_b24  (t : Nat) (σ : Shp) (I : Nat → Nat → Int32) (R : Nat → Nat → Option Nat) (x1 : Int32) (s0 : Option Nat) : Option ((Shp) × (Nat → Nat → Int32) × (Nat → Nat → Option Nat) × (Int32)) :=
  if kdx σ t = 12 then
  ((R t 1) : Option Nat).bind fun a10 =>
  if kdx σ a10 = 26 then
  if ¬ (x1 < 0 ∨ lnx σ a10 ≤ Int32.toNatClampNeg x1) then
  if okR σ 11 s0 = true then
  let R14 := u2 R a10 (Int32.toNatClampNeg x1) s0
  (s0 : Option Nat).bind fun a15 =>
  if kdx σ a15 = 11 then
  some (σ, I, R14, (I a15 4))
  else none
  else none
  else none
  else none
  else none
theorem mX11_card_b24 {σ : Shp} {I : Nat → Nat → Int32} {R : Nat → Nat → Option Nat} {t : Nat} {σ9 : Shp} {I9 : Nat → Nat → Int32} {R9 : Nat → Nat → Option Nat} {r9 : Int32} {x1 : Int32} {s0 : Option Nat} (h : fX11_card_b24 t σ I R x1 s0 = some (σ9, I9, R9, r9)) : Lex σ σ9 := by
  unfold fX11_card_b24 at h
  replace h := (gd h).2
  obtain ⟨a10, ha10, h⟩ := ob h
  replace h := (gd h).2
  replace h := (gd h).2
  replace h := (gd h).2
  obtain ⟨a15, ha15, h⟩ := ob h
  replace h := (gd h).2
  cases h
  exact ⟨Nat.le_refl _, Nat.le_refl _⟩
theorem wX11_card_b24 {G : Gx} {l : Launch} {σ0 : Shp} {σ : Shp} {I : Nat → Nat → Int32} {J : Nat → Nat → Int64} {D : Nat → Nat → UInt64} {R : Nat → Nat → Option Nat} {t : Nat} {σ9 : Shp} {I9 : Nat → Nat → Int32} {R9 : Nat → Nat → Option Nat} {r9 : Int32} {x1 : Int32} {s0 : Option Nat} (h : fX11_card_b24 t σ I R x1 s0 = some (σ9, I9, R9, r9)) : WX11_card G l σ0 (σ9, I9, J, D, R9) (some (vI r9)) (σ, I, J, D, R) 24 [(0, vR (some t)), (1, vI x1)] [vR s0] := by
  unfold fX11_card_b24 at h
  refine r_astore_n (pc := 24) (L' := [(2, vR s0), (0, vR (some t)), (1, vI x1)]) dX11_card_24 rfl (by decide) rfl ?_
  refine r_aload_n (pc := 25) dX11_card_25 rfl 1 rfl ?_
  obtain ⟨g9, h⟩ := gd h
  obtain ⟨a10, ha10, h⟩ := ob h
  refine r_getS (pc := 26) dX11_card_26 fgX11_20 rfl g9 ha10 ?_
  refine r_iload_n (pc := 29) dX11_card_29 rfl 2 rfl ?_
  refine r_aload_n (pc := 30) dX11_card_30 rfl 0 rfl ?_
  obtain ⟨g11, h⟩ := gd h
  obtain ⟨g12, h⟩ := gd h
  obtain ⟨g13, h⟩ := gd h
  refine r_aastore (c := 10) (pc := 31) dX11_card_31 g11 (by decide) g12 g13 ?_
  refine r_aload_n (pc := 32) dX11_card_32 rfl 0 rfl ?_
  obtain ⟨a15, ha15, h⟩ := ob h
  refine r_ref0 ha15 ?_
  obtain ⟨g16, h⟩ := gd h
  refine r_getI (pc := 33) dX11_card_33 fgX11_240 rfl g16 ?_
  cases h
  exact r_iret dX11_card_36
def fX11_card (σ : Shp) (I : Nat → Nat → Int32) (R : Nat → Nat → Option Nat) (t : Nat) (x1 : Int32) : Option ((Shp) × (Nat → Nat → Int32) × (Nat → Nat → Option Nat) × (Int32)) :=
  if (fX11_isBin x1) = 0 then
    some (σ, I, R, (-2 : Int32))
  else
    if kdx σ t = 12 then
    (fX11_isFull σ I t).bind fun r2 =>
    if r2 = 0 then
      (fX11_newCard σ I R t).bind fun (σ4, I5, R6, r7) =>
      fX11_card_b24 t σ4 I5 R6 x1 r7
    else
      some (σ, I, R, (-4 : Int32))
    else none
theorem mX11_card {σ : Shp} {I : Nat → Nat → Int32} {R : Nat → Nat → Option Nat} {t : Nat} {x1 : Int32} {σ9 : Shp} {I9 : Nat → Nat → Int32} {R9 : Nat → Nat → Option Nat} {r9 : Int32} (h : fX11_card σ I R t x1 = some (σ9, I9, R9, r9)) : Lex σ σ9 := by
  unfold fX11_card at h
  rcases itc h with ⟨c, h⟩ | ⟨c, h⟩
  · cases h
    exact ⟨Nat.le_refl _, Nat.le_refl _⟩
  · replace h := (gd h).2
    obtain ⟨r2, hc3, h⟩ := ob h
    rcases itc h with ⟨c, h⟩ | ⟨c, h⟩
    · obtain ⟨⟨σ4, I5, R6, r7⟩, hc8, h⟩ := ob h
      refine Lex.trans (mX11_newCard hc8) ?_
      exact mX11_card_b24 h
    · cases h
      exact ⟨Nat.le_refl _, Nat.le_refl _⟩
theorem kX11_card {G : Gx} {l : Launch} {σ : Shp} {I : Nat → Nat → Int32} {J : Nat → Nat → Int64} {D : Nat → Nat → UInt64} {R : Nat → Nat → Option Nat} {t : Nat} {x1 : Int32} {σ9 : Shp} {I9 : Nat → Nat → Int32} {R9 : Nat → Nat → Option Nat} {r9 : Int32} (h : fX11_card σ I R t x1 = some (σ9, I9, R9, r9)) : Con G l yX11_card cX11_card 3 (some .int) 3 64 [vR (some t), vI x1] (σ, I, J, D, R) (σ9, I9, J, D, R9) (some (vI r9)) := by
  unfold fX11_card at h
  refine Con.mk (by decide +kernel) rfl (Nat.le_of_ble_eq_true rfl) ?_
  show WX11_card G l σ (σ9, I9, J, D, R9) (some (vI r9)) (σ, I, J, D, R) 0 _ []
  refine r_iload_n (pc := 0) dX11_card_0 rfl 1 rfl ?_
  refine r_callS1 (pc := 1) (av := [vI x1]) (S := []) dX11_card_1 (kX11_isBin rfl) mkX11_76 mwX11_isBin rfl ⟨Nat.le_of_ble_eq_true rfl, Nat.le_of_ble_eq_true rfl⟩ (Nat.le_of_ble_eq_true rfl) ⟨Nat.le_refl _, Nat.le_refl _⟩ (fun b => b) ?_
  refine r_ifne (pc := 4) (tgt := 10) dX11_card_4 rfl (fun c => ?_) (fun c => ?_)
  · have h := ie h c
    refine r_aload_n (pc := 10) dX11_card_10 rfl 0 rfl ?_
    obtain ⟨g1, h⟩ := gd h
    obtain ⟨r2, hc3, h⟩ := ob h
    refine r_callV1 (pc := 11) (av := []) (S := []) dX11_card_11 (kX11_isFull hc3) g1 rfl mkX11_83 mwX11_isFull rfl ⟨Nat.le_of_ble_eq_true rfl, Nat.le_of_ble_eq_true rfl⟩ (Nat.le_of_ble_eq_true rfl) ⟨Nat.le_refl _, Nat.le_refl _⟩ (fun b => b) ?_
    refine r_if_eq (pc := 14) (tgt := 20) dX11_card_14 rfl (fun c => ?_) (fun c => ?_)
    · have h := it h c
      refine r_aload_n (pc := 20) dX11_card_20 rfl 0 rfl ?_
      obtain ⟨⟨σ4, I5, R6, r7⟩, hc8, h⟩ := ob h
      refine r_callV1 (pc := 21) (av := []) (S := []) dX11_card_21 (kX11_newCard hc8) g1 rfl mkX11_263 mwX11_newCard rfl ⟨Nat.le_of_ble_eq_true rfl, Nat.le_of_ble_eq_true rfl⟩ (Nat.le_of_ble_eq_true rfl) (mX11_newCard hc8) (bdx_le (mX11_newCard hc8) (mX11_card_b24 h)) ?_
      refine r_sub [0, 1] rfl ?_
      exact wX11_card_b24 h
    · have h := ie h c
      refine r_bipush (pc := 17) dX11_card_17 kc_bipush_m4 ?_
      cases h
      exact r_iret dX11_card_19
  · have h := it h c
    refine r_bipush (pc := 7) dX11_card_7 kc_bipush_m2 ?_
    cases h
    exact r_iret dX11_card_9
abbrev WX11_field (G : Gx) (l : Launch) (σ0 : Shp) (X1 : Stt) (rv : Option SV) : Stt → Nat → List (Nat × SV) → List SV → Prop := Wm G l yX11_field cX11_field 5 (some .long) (fun _ => True) (rmx 2 42 σ0 X1.1) σ0 (Qmx G σ0 X1 rv)
def fX11_field (σ : Shp) (I : Nat → Nat → Int32) (J : Nat → Nat → Int64) (R : Nat → Nat → Option Nat) (t : Nat) (x1 : Int32) (x2 : Int32) : Option ((Nat → Nat → Int32) × (Int64)) :=
  if (fX11_isBin x1) = 0 then
    some (I, (0 : Int64))
  else
    if (fX11_isLane x2) = 0 then
      some (I, (0 : Int64))
    else
      if kdx σ t = 12 then
      ((R t 1) : Option Nat).bind fun a2 =>
      if kdx σ a2 = 26 then
      if ¬ (x1 < 0 ∨ lnx σ a2 ≤ Int32.toNatClampNeg x1) then
      let v5 := (R a2 (Int32.toNatClampNeg x1))
      (fX11_takenFault σ I v5 (17 : Int32)).bind fun r6 =>
      if r6 = 0 then
        onl v5
          (
            (fX11_fail σ I t r6).bind fun (I12, r13) =>
            some (I12, (0 : Int64)))
          (fun a11 =>
            if kdx σ a11 = 11 then
            ((R a11 1) : Option Nat).bind fun a16 =>
            if kdx σ a16 = 21 then
            if ¬ (x2 < 0 ∨ lnx σ a16 ≤ Int32.toNatClampNeg x2) then
            some (I, (J a16 (Int32.toNatClampNeg x2)))
            else none
            else none
            else none)
      else
        (fX11_fail σ I t r6).bind fun (I8, r9) =>
        some (I8, (0 : Int64))
      else none
      else none
      else none
theorem kX11_field {G : Gx} {l : Launch} {σ : Shp} {I : Nat → Nat → Int32} {J : Nat → Nat → Int64} {D : Nat → Nat → UInt64} {R : Nat → Nat → Option Nat} {t : Nat} {x1 : Int32} {x2 : Int32} {I9 : Nat → Nat → Int32} {r9 : Int64} (h : fX11_field σ I J R t x1 x2 = some (I9, r9)) : Con G l yX11_field cX11_field 5 (some .long) 2 42 [vR (some t), vI x1, vI x2] (σ, I, J, D, R) (σ, I9, J, D, R) (some (vL r9)) := by
  unfold fX11_field at h
  refine Con.mk (by decide +kernel) rfl (Nat.le_of_ble_eq_true rfl) ?_
  show WX11_field G l σ (σ, I9, J, D, R) (some (vL r9)) (σ, I, J, D, R) 0 _ []
  refine r_iload_n (pc := 0) dX11_field_0 rfl 1 rfl ?_
  refine r_callS1 (pc := 1) (av := [vI x1]) (S := []) dX11_field_1 (kX11_isBin rfl) mkX11_76 mwX11_isBin rfl ⟨Nat.le_of_ble_eq_true rfl, Nat.le_of_ble_eq_true rfl⟩ (Nat.le_of_ble_eq_true rfl) ⟨Nat.le_refl _, Nat.le_refl _⟩ (fun b => b) ?_
  refine r_if_eq (pc := 4) (tgt := 14) dX11_field_4 rfl (fun c => ?_) (fun c => ?_)
  · have h := it h c
    refine r_lconst (pc := 14) dX11_field_14 kc_lconst_0 ?_
    cases h
    exact r_lret dX11_field_15
  · have h := ie h c
    refine r_iload_n (pc := 7) dX11_field_7 rfl 2 rfl ?_
    refine r_callS1 (pc := 8) (av := [vI x2]) (S := []) dX11_field_8 (kX11_isLane rfl) mkX11_80 mwX11_isLane rfl ⟨Nat.le_of_ble_eq_true rfl, Nat.le_of_ble_eq_true rfl⟩ (Nat.le_of_ble_eq_true rfl) ⟨Nat.le_refl _, Nat.le_refl _⟩ (fun b => b) ?_
    refine r_ifne (pc := 11) (tgt := 16) dX11_field_11 rfl (fun c => ?_) (fun c => ?_)
    · have h := ie h c
      refine r_aload_n (pc := 16) dX11_field_16 rfl 0 rfl ?_
      obtain ⟨g1, h⟩ := gd h
      obtain ⟨a2, ha2, h⟩ := ob h
      refine r_getS (pc := 17) dX11_field_17 fgX11_20 rfl g1 ha2 ?_
      refine r_iload_n (pc := 20) dX11_field_20 rfl 1 rfl ?_
      obtain ⟨g3, h⟩ := gd h
      obtain ⟨g4, h⟩ := gd h
      refine r_aaload (pc := 21) dX11_field_21 g3 (by decide) g4 ?_
      refine r_astore_n (pc := 22) (L' := [(3, vR (R a2 (Int32.toNatClampNeg x1))), (0, vR (some t)), (1, vI x1), (2, vI x2)]) dX11_field_22 rfl (by decide) rfl ?_
      refine r_aload_n (pc := 23) dX11_field_23 rfl 0 rfl ?_
      refine r_bipush (pc := 24) dX11_field_24 kc_bipush_17 ?_
      obtain ⟨r6, hc7, h⟩ := ob h
      refine r_callS1 (pc := 26) (av := [vR (R a2 (Int32.toNatClampNeg x1)), vI (17 : Int32)]) (S := []) dX11_field_26 (kX11_takenFault hc7) mkX11_267 mwX11_takenFault rfl ⟨Nat.le_of_ble_eq_true rfl, Nat.le_of_ble_eq_true rfl⟩ (Nat.le_of_ble_eq_true rfl) ⟨Nat.le_refl _, Nat.le_refl _⟩ (fun b => b) ?_
      refine r_istore (pc := 29) (L' := [(4, vI r6), (3, vR (R a2 (Int32.toNatClampNeg x1))), (0, vR (some t)), (1, vI x1), (2, vI x2)]) dX11_field_29 (by decide) rfl ?_
      refine r_iload (pc := 31) dX11_field_31 0 rfl ?_
      refine r_ifne (pc := 33) (tgt := 40) dX11_field_33 rfl (fun c => ?_) (fun c => ?_)
      · have h := ie h c
        refine r_aload_n (pc := 40) dX11_field_40 rfl 2 rfl ?_
        refine r_iload (pc := 41) dX11_field_41 0 rfl ?_
        obtain ⟨⟨I8, r9⟩, hc10, h⟩ := ob h
        refine r_callV1 (pc := 43) (av := [vI r6]) (S := []) dX11_field_43 (kX11_fail hc10) g1 rfl mkX11_87 mwX11_fail rfl ⟨Nat.le_of_ble_eq_true rfl, Nat.le_of_ble_eq_true rfl⟩ (Nat.le_of_ble_eq_true rfl) ⟨Nat.le_refl _, Nat.le_refl _⟩ (fun b => b) ?_
        refine r_pop (pc := 46) dX11_field_46 rfl ?_
        refine r_lconst (pc := 47) dX11_field_47 kc_lconst_0 ?_
        cases h
        exact r_lret dX11_field_48
      · have h := it h c
        refine r_aload_n (pc := 36) dX11_field_36 rfl 1 rfl ?_
        rcases onl_c h with ⟨ea11, h⟩ | ⟨a11, ha11, h⟩
        · refine r_ref0n ea11 ?_
          refine r_ifnonnull_n (pc := 37) dX11_field_37 ?_
          refine r_aload_n (pc := 40) dX11_field_40 rfl 2 rfl ?_
          refine r_iload (pc := 41) dX11_field_41 0 rfl ?_
          obtain ⟨⟨I12, r13⟩, hc14, h⟩ := ob h
          refine r_callV1 (pc := 43) (av := [vI r6]) (S := []) dX11_field_43 (kX11_fail hc14) g1 rfl mkX11_87 mwX11_fail rfl ⟨Nat.le_of_ble_eq_true rfl, Nat.le_of_ble_eq_true rfl⟩ (Nat.le_of_ble_eq_true rfl) ⟨Nat.le_refl _, Nat.le_refl _⟩ (fun b => b) ?_
          refine r_pop (pc := 46) dX11_field_46 rfl ?_
          refine r_lconst (pc := 47) dX11_field_47 kc_lconst_0 ?_
          cases h
          exact r_lret dX11_field_48
        · refine r_ref0 ha11 ?_
          refine r_ifnonnull_s (pc := 37) (tgt := 49) dX11_field_37 rfl ?_
          refine r_aload_n (pc := 49) dX11_field_49 rfl 1 rfl ?_
          refine r_ref0 ha11 ?_
          obtain ⟨g15, h⟩ := gd h
          obtain ⟨a16, ha16, h⟩ := ob h
          refine r_getS (pc := 50) dX11_field_50 fgX11_134 rfl g15 ha16 ?_
          refine r_iload_n (pc := 53) dX11_field_53 rfl 4 rfl ?_
          obtain ⟨g17, h⟩ := gd h
          obtain ⟨g18, h⟩ := gd h
          refine r_laload (pc := 54) dX11_field_54 g17 g18 ?_
          cases h
          exact r_lret dX11_field_55
    · have h := it h c
      refine r_lconst (pc := 14) dX11_field_14 kc_lconst_0 ?_
      cases h
      exact r_lret dX11_field_15
abbrev WX11_setField (G : Gx) (l : Launch) (σ0 : Shp) (X1 : Stt) (rv : Option SV) : Stt → Nat → List (Nat × SV) → List SV → Prop := Wm G l yX11_setField cX11_setField 7 (some .int) (fun _ => True) (rmx 2 43 σ0 X1.1) σ0 (Qmx G σ0 X1 rv)
def fX11_setField (σ : Shp) (I : Nat → Nat → Int32) (J : Nat → Nat → Int64) (R : Nat → Nat → Option Nat) (t : Nat) (x1 : Int32) (x2 : Int32) (x3 : Int64) : Option ((Nat → Nat → Int32) × (Nat → Nat → Int64) × (Int32)) :=
  if (fX11_isBin x1) = 0 then
    some (I, J, (-2 : Int32))
  else
    if (fX11_isLane x2) = 0 then
      some (I, J, (-2 : Int32))
    else
      if kdx σ t = 12 then
      ((R t 1) : Option Nat).bind fun a2 =>
      if kdx σ a2 = 26 then
      if ¬ (x1 < 0 ∨ lnx σ a2 ≤ Int32.toNatClampNeg x1) then
      let v5 := (R a2 (Int32.toNatClampNeg x1))
      (fX11_takenFault σ I v5 (17 : Int32)).bind fun r6 =>
      if r6 = 0 then
        onl v5
          (
            (fX11_fail σ I t r6).bind fun (I12, r13) =>
            some (I12, J, r13))
          (fun a11 =>
            if kdx σ a11 = 11 then
            ((R a11 1) : Option Nat).bind fun a16 =>
            if kdx σ a16 = 21 then
            if ¬ (x2 < 0 ∨ lnx σ a16 ≤ Int32.toNatClampNeg x2) then
            let J19 := u2 J a16 (Int32.toNatClampNeg x2) (fX11_cellOf x2 x3)
            some (I, J19, (1 : Int32))
            else none
            else none
            else none)
      else
        (fX11_fail σ I t r6).bind fun (I8, r9) =>
        some (I8, J, r9)
      else none
      else none
      else none
theorem kX11_setField {G : Gx} {l : Launch} {σ : Shp} {I : Nat → Nat → Int32} {J : Nat → Nat → Int64} {D : Nat → Nat → UInt64} {R : Nat → Nat → Option Nat} {t : Nat} {x1 : Int32} {x2 : Int32} {x3 : Int64} {I9 : Nat → Nat → Int32} {J9 : Nat → Nat → Int64} {r9 : Int32} (h : fX11_setField σ I J R t x1 x2 x3 = some (I9, J9, r9)) : Con G l yX11_setField cX11_setField 7 (some .int) 2 43 [vR (some t), vI x1, vI x2, vL x3] (σ, I, J, D, R) (σ, I9, J9, D, R) (some (vI r9)) := by
  unfold fX11_setField at h
  refine Con.mk (by decide +kernel) rfl (Nat.le_of_ble_eq_true rfl) ?_
  show WX11_setField G l σ (σ, I9, J9, D, R) (some (vI r9)) (σ, I, J, D, R) 0 _ []
  refine r_iload_n (pc := 0) dX11_setField_0 rfl 1 rfl ?_
  refine r_callS1 (pc := 1) (av := [vI x1]) (S := []) dX11_setField_1 (kX11_isBin rfl) mkX11_76 mwX11_isBin rfl ⟨Nat.le_of_ble_eq_true rfl, Nat.le_of_ble_eq_true rfl⟩ (Nat.le_of_ble_eq_true rfl) ⟨Nat.le_refl _, Nat.le_refl _⟩ (fun b => b) ?_
  refine r_if_eq (pc := 4) (tgt := 14) dX11_setField_4 rfl (fun c => ?_) (fun c => ?_)
  · have h := it h c
    refine r_bipush (pc := 14) dX11_setField_14 kc_bipush_m2 ?_
    cases h
    exact r_iret dX11_setField_16
  · have h := ie h c
    refine r_iload_n (pc := 7) dX11_setField_7 rfl 2 rfl ?_
    refine r_callS1 (pc := 8) (av := [vI x2]) (S := []) dX11_setField_8 (kX11_isLane rfl) mkX11_80 mwX11_isLane rfl ⟨Nat.le_of_ble_eq_true rfl, Nat.le_of_ble_eq_true rfl⟩ (Nat.le_of_ble_eq_true rfl) ⟨Nat.le_refl _, Nat.le_refl _⟩ (fun b => b) ?_
    refine r_ifne (pc := 11) (tgt := 17) dX11_setField_11 rfl (fun c => ?_) (fun c => ?_)
    · have h := ie h c
      refine r_aload_n (pc := 17) dX11_setField_17 rfl 0 rfl ?_
      obtain ⟨g1, h⟩ := gd h
      obtain ⟨a2, ha2, h⟩ := ob h
      refine r_getS (pc := 18) dX11_setField_18 fgX11_20 rfl g1 ha2 ?_
      refine r_iload_n (pc := 21) dX11_setField_21 rfl 1 rfl ?_
      obtain ⟨g3, h⟩ := gd h
      obtain ⟨g4, h⟩ := gd h
      refine r_aaload (pc := 22) dX11_setField_22 g3 (by decide) g4 ?_
      refine r_astore (pc := 23) (L' := [(5, vR (R a2 (Int32.toNatClampNeg x1))), (0, vR (some t)), (1, vI x1), (2, vI x2), (3, vL x3)]) dX11_setField_23 (by decide) rfl ?_
      refine r_aload (pc := 25) dX11_setField_25 0 rfl ?_
      refine r_bipush (pc := 27) dX11_setField_27 kc_bipush_17 ?_
      obtain ⟨r6, hc7, h⟩ := ob h
      refine r_callS1 (pc := 29) (av := [vR (R a2 (Int32.toNatClampNeg x1)), vI (17 : Int32)]) (S := []) dX11_setField_29 (kX11_takenFault hc7) mkX11_267 mwX11_takenFault rfl ⟨Nat.le_of_ble_eq_true rfl, Nat.le_of_ble_eq_true rfl⟩ (Nat.le_of_ble_eq_true rfl) ⟨Nat.le_refl _, Nat.le_refl _⟩ (fun b => b) ?_
      refine r_istore (pc := 32) (L' := [(6, vI r6), (5, vR (R a2 (Int32.toNatClampNeg x1))), (0, vR (some t)), (1, vI x1), (2, vI x2), (3, vL x3)]) dX11_setField_32 (by decide) rfl ?_
      refine r_iload (pc := 34) dX11_setField_34 0 rfl ?_
      refine r_ifne (pc := 36) (tgt := 44) dX11_setField_36 rfl (fun c => ?_) (fun c => ?_)
      · have h := ie h c
        refine r_aload_n (pc := 44) dX11_setField_44 rfl 2 rfl ?_
        refine r_iload (pc := 45) dX11_setField_45 0 rfl ?_
        obtain ⟨⟨I8, r9⟩, hc10, h⟩ := ob h
        refine r_callV1 (pc := 47) (av := [vI r6]) (S := []) dX11_setField_47 (kX11_fail hc10) g1 rfl mkX11_87 mwX11_fail rfl ⟨Nat.le_of_ble_eq_true rfl, Nat.le_of_ble_eq_true rfl⟩ (Nat.le_of_ble_eq_true rfl) ⟨Nat.le_refl _, Nat.le_refl _⟩ (fun b => b) ?_
        cases h
        exact r_iret dX11_setField_50
      · have h := it h c
        refine r_aload (pc := 39) dX11_setField_39 1 rfl ?_
        rcases onl_c h with ⟨ea11, h⟩ | ⟨a11, ha11, h⟩
        · refine r_ref0n ea11 ?_
          refine r_ifnonnull_n (pc := 41) dX11_setField_41 ?_
          refine r_aload_n (pc := 44) dX11_setField_44 rfl 2 rfl ?_
          refine r_iload (pc := 45) dX11_setField_45 0 rfl ?_
          obtain ⟨⟨I12, r13⟩, hc14, h⟩ := ob h
          refine r_callV1 (pc := 47) (av := [vI r6]) (S := []) dX11_setField_47 (kX11_fail hc14) g1 rfl mkX11_87 mwX11_fail rfl ⟨Nat.le_of_ble_eq_true rfl, Nat.le_of_ble_eq_true rfl⟩ (Nat.le_of_ble_eq_true rfl) ⟨Nat.le_refl _, Nat.le_refl _⟩ (fun b => b) ?_
          cases h
          exact r_iret dX11_setField_50
        · refine r_ref0 ha11 ?_
          refine r_ifnonnull_s (pc := 41) (tgt := 51) dX11_setField_41 rfl ?_
          refine r_aload (pc := 51) dX11_setField_51 1 rfl ?_
          refine r_ref0 ha11 ?_
          obtain ⟨g15, h⟩ := gd h
          obtain ⟨a16, ha16, h⟩ := ob h
          refine r_getS (pc := 53) dX11_setField_53 fgX11_134 rfl g15 ha16 ?_
          refine r_iload_n (pc := 56) dX11_setField_56 rfl 4 rfl ?_
          refine r_iload_n (pc := 57) dX11_setField_57 rfl 4 rfl ?_
          refine r_lload_n (pc := 58) dX11_setField_58 rfl 5 rfl ?_
          refine r_callS1 (pc := 59) (av := [vI x2, vL x3]) (S := [vI x2, vR (some a16)]) dX11_setField_59 (kX11_cellOf rfl) mkX11_137 mwX11_cellOf rfl ⟨Nat.le_of_ble_eq_true rfl, Nat.le_of_ble_eq_true rfl⟩ (Nat.le_of_ble_eq_true rfl) ⟨Nat.le_refl _, Nat.le_refl _⟩ (fun b => b) ?_
          obtain ⟨g17, h⟩ := gd h
          obtain ⟨g18, h⟩ := gd h
          refine r_lastore (pc := 62) dX11_setField_62 g17 g18 ?_
          refine r_iconst (pc := 63) dX11_setField_63 kc_iconst_1 ?_
          cases h
          exact r_iret dX11_setField_64
    · have h := it h c
      refine r_bipush (pc := 14) dX11_setField_14 kc_bipush_m2 ?_
      cases h
      exact r_iret dX11_setField_16
abbrev WX11_lead (G : Gx) (l : Launch) (σ0 : Shp) (X1 : Stt) (rv : Option SV) : Stt → Nat → List (Nat × SV) → List SV → Prop := Wm G l yX11_lead cX11_lead 5 (some .int) (fun _ => True) (rmx 1 21 σ0 X1.1) σ0 (Qmx G σ0 X1 rv)
def fX11_lead_b61  (σ : Shp) (t : Nat) (I : Nat → Nat → Int32) (R : Nat → Nat → Option Nat) (x2 : Int32) (x3 : Int32) (x4 : Option Nat) (s0 : Option Nat) (s1 : Int32) : Option ((Nat → Nat → Int32) × (Nat → Nat → Option Nat) × (Int32)) :=
  (fX11_goesFor σ I s0 s1).bind fun r12 =>
  if r12 = 0 then
    if kdx σ t = 12 then
    (fX11_fail σ I t (4 : Int32)).bind fun (I30, r31) =>
    some (I30, R, r31)
    else none
  else
    onl x4
      (
        if kdx σ t = 12 then
        (fX11_fail σ I t (1 : Int32)).bind fun (I16, r17) =>
        some (I16, R, r17)
        else none)
      (fun a14 =>
        if kdx σ a14 = 11 then
        ((R a14 2) : Option Nat).bind fun a20 =>
        if kdx σ t = 12 then
        ((R t 1) : Option Nat).bind fun a22 =>
        if kdx σ a22 = 26 then
        if ¬ (x3 < 0 ∨ lnx σ a22 ≤ Int32.toNatClampNeg x3) then
        if kdx σ a20 = 26 then
        if ¬ (x2 < 0 ∨ lnx σ a20 ≤ Int32.toNatClampNeg x2) then
        if okR σ 11 (R a22 (Int32.toNatClampNeg x3)) = true then
        let R28 := u2 R a20 (Int32.toNatClampNeg x2) (R a22 (Int32.toNatClampNeg x3))
        some (I, R28, (1 : Int32))
        else none
        else none
        else none
        else none
        else none
        else none
        else none)
theorem wX11_lead_b61 {G : Gx} {l : Launch} {σ : Shp} {I : Nat → Nat → Int32} {J : Nat → Nat → Int64} {D : Nat → Nat → UInt64} {R : Nat → Nat → Option Nat} {t : Nat} {I9 : Nat → Nat → Int32} {R9 : Nat → Nat → Option Nat} {r9 : Int32} {x2 : Int32} {x3 : Int32} {x4 : Option Nat} {s0 : Option Nat} {s1 : Int32} (h : fX11_lead_b61 σ t I R x2 x3 x4 s0 s1 = some (I9, R9, r9)) : WX11_lead G l σ (σ, I9, J, D, R9) (some (vI r9)) (σ, I, J, D, R) 61 [(0, vR (some t)), (2, vI x2), (3, vI x3), (4, vR x4)] [vI s1, vR s0] := by
  unfold fX11_lead_b61 at h
  obtain ⟨r12, hc13, h⟩ := ob h
  refine r_callS1 (pc := 61) (av := [vR s0, vI s1]) (S := []) dX11_lead_61 (kX11_goesFor hc13) mkX11_164 mwX11_goesFor rfl ⟨Nat.le_of_ble_eq_true rfl, Nat.le_of_ble_eq_true rfl⟩ (Nat.le_of_ble_eq_true rfl) ⟨Nat.le_refl _, Nat.le_refl _⟩ (fun b => b) ?_
  refine r_ifne (pc := 64) (tgt := 73) dX11_lead_64 rfl (fun c => ?_) (fun c => ?_)
  · have h := ie h c
    refine r_aload (pc := 73) dX11_lead_73 3 rfl ?_
    rcases onl_c h with ⟨ea14, h⟩ | ⟨a14, ha14, h⟩
    · refine r_ref0n ea14 ?_
      refine r_ifnonnull_n (pc := 75) dX11_lead_75 ?_
      refine r_aload_n (pc := 78) dX11_lead_78 rfl 0 rfl ?_
      refine r_iconst (pc := 79) dX11_lead_79 kc_iconst_1 ?_
      obtain ⟨g15, h⟩ := gd h
      obtain ⟨⟨I16, r17⟩, hc18, h⟩ := ob h
      refine r_callV1 (pc := 80) (av := [vI (1 : Int32)]) (S := []) dX11_lead_80 (kX11_fail hc18) g15 rfl mkX11_87 mwX11_fail rfl ⟨Nat.le_of_ble_eq_true rfl, Nat.le_of_ble_eq_true rfl⟩ (Nat.le_of_ble_eq_true rfl) ⟨Nat.le_refl _, Nat.le_refl _⟩ (fun b => b) ?_
      cases h
      exact r_iret dX11_lead_83
    · refine r_ref0 ha14 ?_
      refine r_ifnonnull_s (pc := 75) (tgt := 84) dX11_lead_75 rfl ?_
      refine r_aload (pc := 84) dX11_lead_84 3 rfl ?_
      refine r_ref0 ha14 ?_
      obtain ⟨g19, h⟩ := gd h
      obtain ⟨a20, ha20, h⟩ := ob h
      refine r_getS (pc := 86) dX11_lead_86 fgX11_101 rfl g19 ha20 ?_
      refine r_iload_n (pc := 89) dX11_lead_89 rfl 1 rfl ?_
      refine r_aload_n (pc := 90) dX11_lead_90 rfl 0 rfl ?_
      obtain ⟨g21, h⟩ := gd h
      obtain ⟨a22, ha22, h⟩ := ob h
      refine r_getS (pc := 91) dX11_lead_91 fgX11_20 rfl g21 ha22 ?_
      refine r_iload_n (pc := 94) dX11_lead_94 rfl 2 rfl ?_
      obtain ⟨g23, h⟩ := gd h
      obtain ⟨g24, h⟩ := gd h
      refine r_aaload (pc := 95) dX11_lead_95 g23 (by decide) g24 ?_
      obtain ⟨g25, h⟩ := gd h
      obtain ⟨g26, h⟩ := gd h
      obtain ⟨g27, h⟩ := gd h
      refine r_aastore (c := 10) (pc := 96) dX11_lead_96 g25 (by decide) g26 g27 ?_
      refine r_iconst (pc := 97) dX11_lead_97 kc_iconst_1 ?_
      cases h
      exact r_iret dX11_lead_98
  · have h := it h c
    refine r_aload_n (pc := 67) dX11_lead_67 rfl 0 rfl ?_
    refine r_iconst (pc := 68) dX11_lead_68 kc_iconst_4 ?_
    obtain ⟨g29, h⟩ := gd h
    obtain ⟨⟨I30, r31⟩, hc32, h⟩ := ob h
    refine r_callV1 (pc := 69) (av := [vI (4 : Int32)]) (S := []) dX11_lead_69 (kX11_fail hc32) g29 rfl mkX11_87 mwX11_fail rfl ⟨Nat.le_of_ble_eq_true rfl, Nat.le_of_ble_eq_true rfl⟩ (Nat.le_of_ble_eq_true rfl) ⟨Nat.le_refl _, Nat.le_refl _⟩ (fun b => b) ?_
    cases h
    exact r_iret dX11_lead_72
def fX11_lead (σ : Shp) (I : Nat → Nat → Int32) (R : Nat → Nat → Option Nat) (t : Nat) (x1 : Int32) (x2 : Int32) (x3 : Int32) : Option ((Nat → Nat → Int32) × (Nat → Nat → Option Nat) × (Int32)) :=
  if (fX11_isBin x1) = 0 then
    some (I, R, (-2 : Int32))
  else
    if (fX11_isBin x3) = 0 then
      some (I, R, (-2 : Int32))
    else
      if x2 < 0 then
        some (I, R, (-2 : Int32))
      else
        if x2 ≤ (1 : Int32) then
          if kdx σ t = 12 then
          ((R t 1) : Option Nat).bind fun a2 =>
          if kdx σ a2 = 26 then
          if ¬ (x1 < 0 ∨ lnx σ a2 ≤ Int32.toNatClampNeg x1) then
          let v5 := (R a2 (Int32.toNatClampNeg x1))
          (fX11_goesFor σ I v5 (17 : Int32)).bind fun r6 =>
          if r6 = 0 then
            (fX11_fail σ I t (4 : Int32)).bind fun (I8, r9) =>
            some (I8, R, r9)
          else
            if ¬ (x3 < 0 ∨ lnx σ a2 ≤ Int32.toNatClampNeg x3) then
            if x2 = 0 then
              fX11_lead_b61 σ t I R x2 x3 v5 (R a2 (Int32.toNatClampNeg x3)) (17 : Int32)
            else
              fX11_lead_b61 σ t I R x2 x3 v5 (R a2 (Int32.toNatClampNeg x3)) (16 : Int32)
            else none
          else none
          else none
          else none
        else
          some (I, R, (-2 : Int32))
theorem kX11_lead {G : Gx} {l : Launch} {σ : Shp} {I : Nat → Nat → Int32} {J : Nat → Nat → Int64} {D : Nat → Nat → UInt64} {R : Nat → Nat → Option Nat} {t : Nat} {x1 : Int32} {x2 : Int32} {x3 : Int32} {I9 : Nat → Nat → Int32} {R9 : Nat → Nat → Option Nat} {r9 : Int32} (h : fX11_lead σ I R t x1 x2 x3 = some (I9, R9, r9)) : Con G l yX11_lead cX11_lead 5 (some .int) 1 21 [vR (some t), vI x1, vI x2, vI x3] (σ, I, J, D, R) (σ, I9, J, D, R9) (some (vI r9)) := by
  unfold fX11_lead at h
  refine Con.mk (by decide +kernel) rfl (Nat.le_of_ble_eq_true rfl) ?_
  show WX11_lead G l σ (σ, I9, J, D, R9) (some (vI r9)) (σ, I, J, D, R) 0 _ []
  refine r_iload_n (pc := 0) dX11_lead_0 rfl 1 rfl ?_
  refine r_callS1 (pc := 1) (av := [vI x1]) (S := []) dX11_lead_1 (kX11_isBin rfl) mkX11_76 mwX11_isBin rfl ⟨Nat.le_of_ble_eq_true rfl, Nat.le_of_ble_eq_true rfl⟩ (Nat.le_of_ble_eq_true rfl) ⟨Nat.le_refl _, Nat.le_refl _⟩ (fun b => b) ?_
  refine r_if_eq (pc := 4) (tgt := 23) dX11_lead_4 rfl (fun c => ?_) (fun c => ?_)
  · have h := it h c
    refine r_bipush (pc := 23) dX11_lead_23 kc_bipush_m2 ?_
    cases h
    exact r_iret dX11_lead_25
  · have h := ie h c
    refine r_iload_n (pc := 7) dX11_lead_7 rfl 3 rfl ?_
    refine r_callS1 (pc := 8) (av := [vI x3]) (S := []) dX11_lead_8 (kX11_isBin rfl) mkX11_76 mwX11_isBin rfl ⟨Nat.le_of_ble_eq_true rfl, Nat.le_of_ble_eq_true rfl⟩ (Nat.le_of_ble_eq_true rfl) ⟨Nat.le_refl _, Nat.le_refl _⟩ (fun b => b) ?_
    refine r_if_eq (pc := 11) (tgt := 23) dX11_lead_11 rfl (fun c => ?_) (fun c => ?_)
    · have h := it h c
      refine r_bipush (pc := 23) dX11_lead_23 kc_bipush_m2 ?_
      cases h
      exact r_iret dX11_lead_25
    · have h := ie h c
      refine r_iload_n (pc := 14) dX11_lead_14 rfl 2 rfl ?_
      refine r_if_lt (pc := 15) (tgt := 23) dX11_lead_15 rfl (fun c => ?_) (fun c => ?_)
      · have h := it h c
        refine r_bipush (pc := 23) dX11_lead_23 kc_bipush_m2 ?_
        cases h
        exact r_iret dX11_lead_25
      · have h := ie h c
        refine r_iload_n (pc := 18) dX11_lead_18 rfl 2 rfl ?_
        refine r_iconst (pc := 19) dX11_lead_19 kc_iconst_1 ?_
        refine r_icmp_le (pc := 20) (tgt := 26) dX11_lead_20 rfl (fun c => ?_) (fun c => ?_)
        · have h := it h c
          refine r_aload_n (pc := 26) dX11_lead_26 rfl 0 rfl ?_
          obtain ⟨g1, h⟩ := gd h
          obtain ⟨a2, ha2, h⟩ := ob h
          refine r_getS (pc := 27) dX11_lead_27 fgX11_20 rfl g1 ha2 ?_
          refine r_iload_n (pc := 30) dX11_lead_30 rfl 1 rfl ?_
          obtain ⟨g3, h⟩ := gd h
          obtain ⟨g4, h⟩ := gd h
          refine r_aaload (pc := 31) dX11_lead_31 g3 (by decide) g4 ?_
          refine r_astore (pc := 32) (L' := [(4, vR (R a2 (Int32.toNatClampNeg x1))), (0, vR (some t)), (1, vI x1), (2, vI x2), (3, vI x3)]) dX11_lead_32 (by decide) rfl ?_
          refine r_aload (pc := 34) dX11_lead_34 0 rfl ?_
          refine r_bipush (pc := 36) dX11_lead_36 kc_bipush_17 ?_
          obtain ⟨r6, hc7, h⟩ := ob h
          refine r_callS1 (pc := 38) (av := [vR (R a2 (Int32.toNatClampNeg x1)), vI (17 : Int32)]) (S := []) dX11_lead_38 (kX11_goesFor hc7) mkX11_164 mwX11_goesFor rfl ⟨Nat.le_of_ble_eq_true rfl, Nat.le_of_ble_eq_true rfl⟩ (Nat.le_of_ble_eq_true rfl) ⟨Nat.le_refl _, Nat.le_refl _⟩ (fun b => b) ?_
          refine r_if_eq (pc := 41) (tgt := 67) dX11_lead_41 rfl (fun c => ?_) (fun c => ?_)
          · have h := it h c
            refine r_aload_n (pc := 67) dX11_lead_67 rfl 1 rfl ?_
            refine r_iconst (pc := 68) dX11_lead_68 kc_iconst_4 ?_
            obtain ⟨⟨I8, r9⟩, hc10, h⟩ := ob h
            refine r_callV1 (pc := 69) (av := [vI (4 : Int32)]) (S := []) dX11_lead_69 (kX11_fail hc10) g1 rfl mkX11_87 mwX11_fail rfl ⟨Nat.le_of_ble_eq_true rfl, Nat.le_of_ble_eq_true rfl⟩ (Nat.le_of_ble_eq_true rfl) ⟨Nat.le_refl _, Nat.le_refl _⟩ (fun b => b) ?_
            cases h
            exact r_iret dX11_lead_72
          · have h := ie h c
            refine r_aload_n (pc := 44) dX11_lead_44 rfl 1 rfl ?_
            refine r_getS (pc := 45) dX11_lead_45 fgX11_20 rfl g1 ha2 ?_
            refine r_iload_n (pc := 48) dX11_lead_48 rfl 4 rfl ?_
            obtain ⟨g11, h⟩ := gd h
            refine r_aaload (pc := 49) dX11_lead_49 g3 (by decide) g11 ?_
            refine r_iload_n (pc := 50) dX11_lead_50 rfl 3 rfl ?_
            refine r_ifne (pc := 51) (tgt := 59) dX11_lead_51 rfl (fun c => ?_) (fun c => ?_)
            · have h := ie h c
              refine r_bipush (pc := 59) dX11_lead_59 kc_bipush_16 ?_
              refine r_sub [1, 3, 4, 0] rfl ?_
              exact wX11_lead_b61 h
            · have h := it h c
              refine r_bipush (pc := 54) dX11_lead_54 kc_bipush_17 ?_
              refine r_goto (pc := 56) (tgt := 61) dX11_lead_56 rfl ?_
              refine r_sub [1, 3, 4, 0] rfl ?_
              exact wX11_lead_b61 h
        · have h := ie h c
          refine r_bipush (pc := 23) dX11_lead_23 kc_bipush_m2 ?_
          cases h
          exact r_iret dX11_lead_25
abbrev WX11_follow (G : Gx) (l : Launch) (σ0 : Shp) (X1 : Stt) (rv : Option SV) : Stt → Nat → List (Nat × SV) → List SV → Prop := Wm G l yX11_follow cX11_follow 6 (some .int) (fun _ => True) (rmx 2 42 σ0 X1.1) σ0 (Qmx G σ0 X1 rv)
def fX11_follow (σ : Shp) (I : Nat → Nat → Int32) (R : Nat → Nat → Option Nat) (t : Nat) (x1 : Int32) (x2 : Int32) (x3 : Int32) : Option ((Nat → Nat → Int32) × (Nat → Nat → Option Nat) × (Int32)) :=
  if (fX11_isBin x1) = 0 then
    some (I, R, (-2 : Int32))
  else
    if (fX11_isBin x2) = 0 then
      some (I, R, (-2 : Int32))
    else
      if x3 < 0 then
        some (I, R, (-2 : Int32))
      else
        if x3 ≤ (1 : Int32) then
          if kdx σ t = 12 then
          ((R t 1) : Option Nat).bind fun a2 =>
          if kdx σ a2 = 26 then
          if ¬ (x2 < 0 ∨ lnx σ a2 ≤ Int32.toNatClampNeg x2) then
          let v5 := (R a2 (Int32.toNatClampNeg x2))
          (fX11_takenFault σ I v5 (17 : Int32)).bind fun r6 =>
          if r6 = 0 then
            onl v5
              (
                (fX11_fail σ I t r6).bind fun (I12, r13) =>
                some (I12, R, r13))
              (fun a11 =>
                if kdx σ a11 = 11 then
                ((R a11 2) : Option Nat).bind fun a16 =>
                if kdx σ a16 = 26 then
                if ¬ (x3 < 0 ∨ lnx σ a16 ≤ Int32.toNatClampNeg x3) then
                if ¬ (x1 < 0 ∨ lnx σ a2 ≤ Int32.toNatClampNeg x1) then
                if okR σ 11 (R a16 (Int32.toNatClampNeg x3)) = true then
                let R21 := u2 R a2 (Int32.toNatClampNeg x1) (R a16 (Int32.toNatClampNeg x3))
                some (I, R21, (1 : Int32))
                else none
                else none
                else none
                else none
                else none)
          else
            (fX11_fail σ I t r6).bind fun (I8, r9) =>
            some (I8, R, r9)
          else none
          else none
          else none
        else
          some (I, R, (-2 : Int32))
theorem kX11_follow {G : Gx} {l : Launch} {σ : Shp} {I : Nat → Nat → Int32} {J : Nat → Nat → Int64} {D : Nat → Nat → UInt64} {R : Nat → Nat → Option Nat} {t : Nat} {x1 : Int32} {x2 : Int32} {x3 : Int32} {I9 : Nat → Nat → Int32} {R9 : Nat → Nat → Option Nat} {r9 : Int32} (h : fX11_follow σ I R t x1 x2 x3 = some (I9, R9, r9)) : Con G l yX11_follow cX11_follow 6 (some .int) 2 42 [vR (some t), vI x1, vI x2, vI x3] (σ, I, J, D, R) (σ, I9, J, D, R9) (some (vI r9)) := by
  unfold fX11_follow at h
  refine Con.mk (by decide +kernel) rfl (Nat.le_of_ble_eq_true rfl) ?_
  show WX11_follow G l σ (σ, I9, J, D, R9) (some (vI r9)) (σ, I, J, D, R) 0 _ []
  refine r_iload_n (pc := 0) dX11_follow_0 rfl 1 rfl ?_
  refine r_callS1 (pc := 1) (av := [vI x1]) (S := []) dX11_follow_1 (kX11_isBin rfl) mkX11_76 mwX11_isBin rfl ⟨Nat.le_of_ble_eq_true rfl, Nat.le_of_ble_eq_true rfl⟩ (Nat.le_of_ble_eq_true rfl) ⟨Nat.le_refl _, Nat.le_refl _⟩ (fun b => b) ?_
  refine r_if_eq (pc := 4) (tgt := 23) dX11_follow_4 rfl (fun c => ?_) (fun c => ?_)
  · have h := it h c
    refine r_bipush (pc := 23) dX11_follow_23 kc_bipush_m2 ?_
    cases h
    exact r_iret dX11_follow_25
  · have h := ie h c
    refine r_iload_n (pc := 7) dX11_follow_7 rfl 2 rfl ?_
    refine r_callS1 (pc := 8) (av := [vI x2]) (S := []) dX11_follow_8 (kX11_isBin rfl) mkX11_76 mwX11_isBin rfl ⟨Nat.le_of_ble_eq_true rfl, Nat.le_of_ble_eq_true rfl⟩ (Nat.le_of_ble_eq_true rfl) ⟨Nat.le_refl _, Nat.le_refl _⟩ (fun b => b) ?_
    refine r_if_eq (pc := 11) (tgt := 23) dX11_follow_11 rfl (fun c => ?_) (fun c => ?_)
    · have h := it h c
      refine r_bipush (pc := 23) dX11_follow_23 kc_bipush_m2 ?_
      cases h
      exact r_iret dX11_follow_25
    · have h := ie h c
      refine r_iload_n (pc := 14) dX11_follow_14 rfl 3 rfl ?_
      refine r_if_lt (pc := 15) (tgt := 23) dX11_follow_15 rfl (fun c => ?_) (fun c => ?_)
      · have h := it h c
        refine r_bipush (pc := 23) dX11_follow_23 kc_bipush_m2 ?_
        cases h
        exact r_iret dX11_follow_25
      · have h := ie h c
        refine r_iload_n (pc := 18) dX11_follow_18 rfl 3 rfl ?_
        refine r_iconst (pc := 19) dX11_follow_19 kc_iconst_1 ?_
        refine r_icmp_le (pc := 20) (tgt := 26) dX11_follow_20 rfl (fun c => ?_) (fun c => ?_)
        · have h := it h c
          refine r_aload_n (pc := 26) dX11_follow_26 rfl 0 rfl ?_
          obtain ⟨g1, h⟩ := gd h
          obtain ⟨a2, ha2, h⟩ := ob h
          refine r_getS (pc := 27) dX11_follow_27 fgX11_20 rfl g1 ha2 ?_
          refine r_iload_n (pc := 30) dX11_follow_30 rfl 2 rfl ?_
          obtain ⟨g3, h⟩ := gd h
          obtain ⟨g4, h⟩ := gd h
          refine r_aaload (pc := 31) dX11_follow_31 g3 (by decide) g4 ?_
          refine r_astore (pc := 32) (L' := [(4, vR (R a2 (Int32.toNatClampNeg x2))), (0, vR (some t)), (1, vI x1), (2, vI x2), (3, vI x3)]) dX11_follow_32 (by decide) rfl ?_
          refine r_aload (pc := 34) dX11_follow_34 0 rfl ?_
          refine r_bipush (pc := 36) dX11_follow_36 kc_bipush_17 ?_
          obtain ⟨r6, hc7, h⟩ := ob h
          refine r_callS1 (pc := 38) (av := [vR (R a2 (Int32.toNatClampNeg x2)), vI (17 : Int32)]) (S := []) dX11_follow_38 (kX11_takenFault hc7) mkX11_267 mwX11_takenFault rfl ⟨Nat.le_of_ble_eq_true rfl, Nat.le_of_ble_eq_true rfl⟩ (Nat.le_of_ble_eq_true rfl) ⟨Nat.le_refl _, Nat.le_refl _⟩ (fun b => b) ?_
          refine r_istore (pc := 41) (L' := [(5, vI r6), (4, vR (R a2 (Int32.toNatClampNeg x2))), (0, vR (some t)), (1, vI x1), (2, vI x2), (3, vI x3)]) dX11_follow_41 (by decide) rfl ?_
          refine r_iload (pc := 43) dX11_follow_43 0 rfl ?_
          refine r_ifne (pc := 45) (tgt := 53) dX11_follow_45 rfl (fun c => ?_) (fun c => ?_)
          · have h := ie h c
            refine r_aload_n (pc := 53) dX11_follow_53 rfl 2 rfl ?_
            refine r_iload (pc := 54) dX11_follow_54 0 rfl ?_
            obtain ⟨⟨I8, r9⟩, hc10, h⟩ := ob h
            refine r_callV1 (pc := 56) (av := [vI r6]) (S := []) dX11_follow_56 (kX11_fail hc10) g1 rfl mkX11_87 mwX11_fail rfl ⟨Nat.le_of_ble_eq_true rfl, Nat.le_of_ble_eq_true rfl⟩ (Nat.le_of_ble_eq_true rfl) ⟨Nat.le_refl _, Nat.le_refl _⟩ (fun b => b) ?_
            cases h
            exact r_iret dX11_follow_59
          · have h := it h c
            refine r_aload (pc := 48) dX11_follow_48 1 rfl ?_
            rcases onl_c h with ⟨ea11, h⟩ | ⟨a11, ha11, h⟩
            · refine r_ref0n ea11 ?_
              refine r_ifnonnull_n (pc := 50) dX11_follow_50 ?_
              refine r_aload_n (pc := 53) dX11_follow_53 rfl 2 rfl ?_
              refine r_iload (pc := 54) dX11_follow_54 0 rfl ?_
              obtain ⟨⟨I12, r13⟩, hc14, h⟩ := ob h
              refine r_callV1 (pc := 56) (av := [vI r6]) (S := []) dX11_follow_56 (kX11_fail hc14) g1 rfl mkX11_87 mwX11_fail rfl ⟨Nat.le_of_ble_eq_true rfl, Nat.le_of_ble_eq_true rfl⟩ (Nat.le_of_ble_eq_true rfl) ⟨Nat.le_refl _, Nat.le_refl _⟩ (fun b => b) ?_
              cases h
              exact r_iret dX11_follow_59
            · refine r_ref0 ha11 ?_
              refine r_ifnonnull_s (pc := 50) (tgt := 60) dX11_follow_50 rfl ?_
              refine r_aload_n (pc := 60) dX11_follow_60 rfl 2 rfl ?_
              refine r_getS (pc := 61) dX11_follow_61 fgX11_20 rfl g1 ha2 ?_
              refine r_iload_n (pc := 64) dX11_follow_64 rfl 3 rfl ?_
              refine r_aload (pc := 65) dX11_follow_65 1 rfl ?_
              refine r_ref0 ha11 ?_
              obtain ⟨g15, h⟩ := gd h
              obtain ⟨a16, ha16, h⟩ := ob h
              refine r_getS (pc := 67) dX11_follow_67 fgX11_101 rfl g15 ha16 ?_
              refine r_iload_n (pc := 70) dX11_follow_70 rfl 5 rfl ?_
              obtain ⟨g17, h⟩ := gd h
              obtain ⟨g18, h⟩ := gd h
              refine r_aaload (pc := 71) dX11_follow_71 g17 (by decide) g18 ?_
              obtain ⟨g19, h⟩ := gd h
              obtain ⟨g20, h⟩ := gd h
              refine r_aastore (c := 10) (pc := 72) dX11_follow_72 g3 (by decide) g19 g20 ?_
              refine r_iconst (pc := 73) dX11_follow_73 kc_iconst_1 ?_
              cases h
              exact r_iret dX11_follow_74
        · have h := ie h c
          refine r_bipush (pc := 23) dX11_follow_23 kc_bipush_m2 ?_
          cases h
          exact r_iret dX11_follow_25
abbrev WX11_led (G : Gx) (l : Launch) (σ0 : Shp) (X1 : Stt) (rv : Option SV) : Stt → Nat → List (Nat × SV) → List SV → Prop := Wm G l yX11_led cX11_led 8 (some .int) (fun _ => True) (rmx 2 42 σ0 X1.1) σ0 (Qmx G σ0 X1 rv)
def fX11_led_b122  (σ : Shp) (R : Nat → Nat → Option Nat) (I : Nat → Nat → Int32) (x2 : Int32) (x5 : Option Nat) (x6 : Option Nat) (x7 : Int32) : Option ((Nat → Nat → Int32) × (Int32)) :=
  if x2 = 0 then
    some (I, x7)
  else
    if x2 = (2 : Int32) then
      (x5 : Option Nat).bind fun a18 =>
      if kdx σ a18 = 11 then
      some (I, (I a18 4))
      else none
    else
      onl x6
        (
          some (I, (-1 : Int32)))
        (fun a16 =>
          if kdx σ a16 = 11 then
          some (I, (I a16 4))
          else none)
theorem wX11_led_b122 {G : Gx} {l : Launch} {σ : Shp} {I : Nat → Nat → Int32} {J : Nat → Nat → Int64} {D : Nat → Nat → UInt64} {R : Nat → Nat → Option Nat} {I9 : Nat → Nat → Int32} {r9 : Int32} {x2 : Int32} {x5 : Option Nat} {x6 : Option Nat} {x7 : Int32} (h : fX11_led_b122 σ R I x2 x5 x6 x7 = some (I9, r9)) : WX11_led G l σ (σ, I9, J, D, R) (some (vI r9)) (σ, I, J, D, R) 122 [(2, vI x2), (5, vR x5), (6, vR x6), (7, vI x7)] [] := by
  unfold fX11_led_b122 at h
  refine r_iload_n (pc := 122) dX11_led_122 rfl 0 rfl ?_
  refine r_ifne (pc := 123) (tgt := 129) dX11_led_123 rfl (fun c => ?_) (fun c => ?_)
  · have h := ie h c
    refine r_iload_n (pc := 129) dX11_led_129 rfl 0 rfl ?_
    refine r_iconst (pc := 130) dX11_led_130 kc_iconst_2 ?_
    refine r_icmp_ne (pc := 131) (tgt := 140) dX11_led_131 rfl (fun c => ?_) (fun c => ?_)
    · have h := ie h c
      refine r_aload (pc := 140) dX11_led_140 2 rfl ?_
      rcases onl_c h with ⟨ea16, h⟩ | ⟨a16, ha16, h⟩
      · refine r_ref0n ea16 ?_
        refine r_ifnonnull_n (pc := 142) dX11_led_142 ?_
        refine r_iconst (pc := 145) dX11_led_145 kc_iconst_m1 ?_
        refine r_goto (pc := 146) (tgt := 154) dX11_led_146 rfl ?_
        cases h
        exact r_iret dX11_led_154
      · refine r_ref0 ha16 ?_
        refine r_ifnonnull_s (pc := 142) (tgt := 149) dX11_led_142 rfl ?_
        refine r_aload (pc := 149) dX11_led_149 2 rfl ?_
        refine r_ref0 ha16 ?_
        obtain ⟨g17, h⟩ := gd h
        refine r_getI (pc := 151) dX11_led_151 fgX11_240 rfl g17 ?_
        cases h
        exact r_iret dX11_led_154
    · have h := it h c
      refine r_aload (pc := 134) dX11_led_134 1 rfl ?_
      obtain ⟨a18, ha18, h⟩ := ob h
      refine r_ref0 ha18 ?_
      obtain ⟨g19, h⟩ := gd h
      refine r_getI (pc := 136) dX11_led_136 fgX11_240 rfl g19 ?_
      cases h
      exact r_iret dX11_led_139
  · have h := it h c
    refine r_iload (pc := 126) dX11_led_126 3 rfl ?_
    cases h
    exact r_iret dX11_led_128
def fX11_led_l69  (σ : Shp) (R : Nat → Nat → Option Nat) (t : Nat) : Nat → (Nat → Nat → Int32) → (Int32) → (Option Nat) → (Option Nat) → (Int32) → Option ((Nat → Nat → Int32) × (Int32))
  | 0, _, _, _, _, _ => none
  | n + 1, I, x2, x5, x6, x7 =>
    if (1000000 : Int32) ≤ x7 then
      fX11_led_b122 σ R I x2 x5 x6 x7
    else
      onl x6
        (
          fX11_led_b122 σ R I x2 x5 x6 x7)
        (fun a20 =>
          if kdx σ a20 = 11 then
          if kdx σ t = 12 then
          if (I a20 8) = (I t 19) then
            fX11_led_b122 σ R I x2 x5 x6 x7
          else
            let I23 := u2 I a20 8 (I t 19)
            ((R a20 2) : Option Nat).bind fun a24 =>
            if kdx σ a24 = 26 then
            if ¬ ((0 : Int32) < 0 ∨ lnx σ a24 ≤ Int32.toNatClampNeg (0 : Int32)) then
            let v27 := (R a24 (Int32.toNatClampNeg (0 : Int32)))
            let v28 := x7 + (1 : Int32)
            fX11_led_l69 σ R t n I23 x2 (some a20) v27 v28
            else none
            else none
          else none
          else none)
theorem wX11_led_l69 {G : Gx} {l : Launch} {σ : Shp} {J : Nat → Nat → Int64} {D : Nat → Nat → UInt64} {R : Nat → Nat → Option Nat} {t : Nat} {I9 : Nat → Nat → Int32} {r9 : Int32} : ∀ (n : Nat) (I : Nat → Nat → Int32) (x2 : Int32) (x5 : Option Nat) (x6 : Option Nat) (x7 : Int32), fX11_led_l69 σ R t n I x2 x5 x6 x7 = some (I9, r9) → WX11_led G l σ (σ, I9, J, D, R) (some (vI r9)) (σ, I, J, D, R) 69 [(0, vR (some t)), (2, vI x2), (5, vR x5), (6, vR x6), (7, vI x7)] [] := by
  intro n
  induction n with
  | zero =>
    intro I x2 x5 x6 x7 h
    have h : none = some _ := h
    cases h
  | succ n ih =>
    intro I x2 x5 x6 x7 h
    rw [fX11_led_l69] at h
    refine r_iload (pc := 69) dX11_led_69 4 rfl ?_
    refine r_ldcw (pc := 71) dX11_led_71 ciX11_273 ?_
    refine r_icmp_ge (pc := 74) (tgt := 122) dX11_led_74 rfl (fun c => ?_) (fun c => ?_)
    · have h := it h c
      refine r_sub [1, 2, 3, 4] rfl ?_
      exact wX11_led_b122 h
    · have h := ie h c
      refine r_aload (pc := 77) dX11_led_77 3 rfl ?_
      rcases onl_c h with ⟨ea20, h⟩ | ⟨a20, ha20, h⟩
      · refine r_ref0n ea20 ?_
        refine r_ifnull_n (pc := 79) (tgt := 122) dX11_led_79 rfl ?_
        refine r_sub [1, 2, 3, 4] rfl ?_
        exact wX11_led_b122 h
      · refine r_ref0 ha20 ?_
        refine r_ifnull_s (pc := 79) dX11_led_79 ?_
        refine r_aload (pc := 82) dX11_led_82 3 rfl ?_
        refine r_ref0 ha20 ?_
        obtain ⟨g21, h⟩ := gd h
        refine r_getI (pc := 84) dX11_led_84 fgX11_274 rfl g21 ?_
        refine r_aload_n (pc := 87) dX11_led_87 rfl 0 rfl ?_
        obtain ⟨g22, h⟩ := gd h
        refine r_getI (pc := 88) dX11_led_88 fgX11_270 rfl g22 ?_
        refine r_icmp_eq (pc := 91) (tgt := 122) dX11_led_91 rfl (fun c => ?_) (fun c => ?_)
        · have h := it h c
          refine r_sub [1, 2, 3, 4] rfl ?_
          exact wX11_led_b122 h
        · have h := ie h c
          refine r_aload (pc := 94) dX11_led_94 3 rfl ?_
          refine r_ref0 ha20 ?_
          refine r_aload_n (pc := 96) dX11_led_96 rfl 0 rfl ?_
          refine r_getI (pc := 97) dX11_led_97 fgX11_270 rfl g22 ?_
          refine r_putI (pc := 100) dX11_led_100 fwX11_274 rfl g21 ?_
          refine r_aload (pc := 103) dX11_led_103 3 rfl ?_
          refine r_ref0 ha20 ?_
          refine r_astore (pc := 105) (L' := [(5, vR (some a20)), (0, vR (some t)), (2, vI x2), (6, vR x6), (7, vI x7)]) dX11_led_105 (by decide) rfl ?_
          refine r_aload (pc := 107) dX11_led_107 3 rfl ?_
          refine r_ref0 ha20 ?_
          obtain ⟨a24, ha24, h⟩ := ob h
          refine r_getS (pc := 109) dX11_led_109 fgX11_101 rfl g21 ha24 ?_
          refine r_iconst (pc := 112) dX11_led_112 kc_iconst_0 ?_
          obtain ⟨g25, h⟩ := gd h
          obtain ⟨g26, h⟩ := gd h
          refine r_aaload (pc := 113) dX11_led_113 g25 (by decide) g26 ?_
          refine r_astore (pc := 114) (L' := [(6, vR (R a24 (Int32.toNatClampNeg (0 : Int32)))), (5, vR (some a20)), (0, vR (some t)), (2, vI x2), (7, vI x7)]) dX11_led_114 (by decide) rfl ?_
          refine r_iinc (pc := 116) (v := (x7 + (1 : Int32))) (L' := [(7, vI (x7 + (1 : Int32))), (6, vR (R a24 (Int32.toNatClampNeg (0 : Int32)))), (5, vR (some a20)), (0, vR (some t)), (2, vI x2)]) dX11_led_116 4 rfl (kc_inc_1 _) (by decide) rfl ?_
          refine r_goto (pc := 119) (tgt := 69) dX11_led_119 rfl ?_
          refine r_sub [3, 4, 2, 1, 0] rfl ?_
          exact ih _ _ _ _ _ h
def fX11_led (σ : Shp) (I : Nat → Nat → Int32) (R : Nat → Nat → Option Nat) (t : Nat) (x1 : Int32) (x2 : Int32) : Option ((Nat → Nat → Int32) × (Int32)) :=
  if (fX11_isBin x1) = 0 then
    some (I, (-2 : Int32))
  else
    if x2 < 0 then
      some (I, (-2 : Int32))
    else
      if x2 ≤ (2 : Int32) then
        if kdx σ t = 12 then
        ((R t 1) : Option Nat).bind fun a2 =>
        if kdx σ a2 = 26 then
        if ¬ (x1 < 0 ∨ lnx σ a2 ≤ Int32.toNatClampNeg x1) then
        let v5 := (R a2 (Int32.toNatClampNeg x1))
        (fX11_takenFault σ I v5 (17 : Int32)).bind fun r6 =>
        if r6 = 0 then
          onl v5
            (
              (fX11_fail σ I t r6).bind fun (I12, r13) =>
              some (I12, r13))
            (fun a11 =>
              let I15 := u2 I t 19 ((I t 19) + (1 : Int32))
              fX11_led_l69 σ R t FUx I15 x2 (some a11) (some a11) (0 : Int32))
        else
          (fX11_fail σ I t r6).bind fun (I8, r9) =>
          some (I8, r9)
        else none
        else none
        else none
      else
        some (I, (-2 : Int32))
theorem kX11_led {G : Gx} {l : Launch} {σ : Shp} {I : Nat → Nat → Int32} {J : Nat → Nat → Int64} {D : Nat → Nat → UInt64} {R : Nat → Nat → Option Nat} {t : Nat} {x1 : Int32} {x2 : Int32} {I9 : Nat → Nat → Int32} {r9 : Int32} (h : fX11_led σ I R t x1 x2 = some (I9, r9)) : Con G l yX11_led cX11_led 8 (some .int) 2 42 [vR (some t), vI x1, vI x2] (σ, I, J, D, R) (σ, I9, J, D, R) (some (vI r9)) := by
  unfold fX11_led at h
  refine Con.mk (by decide +kernel) rfl (Nat.le_of_ble_eq_true rfl) ?_
  show WX11_led G l σ (σ, I9, J, D, R) (some (vI r9)) (σ, I, J, D, R) 0 _ []
  refine r_iload_n (pc := 0) dX11_led_0 rfl 1 rfl ?_
  refine r_callS1 (pc := 1) (av := [vI x1]) (S := []) dX11_led_1 (kX11_isBin rfl) mkX11_76 mwX11_isBin rfl ⟨Nat.le_of_ble_eq_true rfl, Nat.le_of_ble_eq_true rfl⟩ (Nat.le_of_ble_eq_true rfl) ⟨Nat.le_refl _, Nat.le_refl _⟩ (fun b => b) ?_
  refine r_if_eq (pc := 4) (tgt := 16) dX11_led_4 rfl (fun c => ?_) (fun c => ?_)
  · have h := it h c
    refine r_bipush (pc := 16) dX11_led_16 kc_bipush_m2 ?_
    cases h
    exact r_iret dX11_led_18
  · have h := ie h c
    refine r_iload_n (pc := 7) dX11_led_7 rfl 2 rfl ?_
    refine r_if_lt (pc := 8) (tgt := 16) dX11_led_8 rfl (fun c => ?_) (fun c => ?_)
    · have h := it h c
      refine r_bipush (pc := 16) dX11_led_16 kc_bipush_m2 ?_
      cases h
      exact r_iret dX11_led_18
    · have h := ie h c
      refine r_iload_n (pc := 11) dX11_led_11 rfl 2 rfl ?_
      refine r_iconst (pc := 12) dX11_led_12 kc_iconst_2 ?_
      refine r_icmp_le (pc := 13) (tgt := 19) dX11_led_13 rfl (fun c => ?_) (fun c => ?_)
      · have h := it h c
        refine r_aload_n (pc := 19) dX11_led_19 rfl 0 rfl ?_
        obtain ⟨g1, h⟩ := gd h
        obtain ⟨a2, ha2, h⟩ := ob h
        refine r_getS (pc := 20) dX11_led_20 fgX11_20 rfl g1 ha2 ?_
        refine r_iload_n (pc := 23) dX11_led_23 rfl 1 rfl ?_
        obtain ⟨g3, h⟩ := gd h
        obtain ⟨g4, h⟩ := gd h
        refine r_aaload (pc := 24) dX11_led_24 g3 (by decide) g4 ?_
        refine r_astore_n (pc := 25) (L' := [(3, vR (R a2 (Int32.toNatClampNeg x1))), (0, vR (some t)), (1, vI x1), (2, vI x2)]) dX11_led_25 rfl (by decide) rfl ?_
        refine r_aload_n (pc := 26) dX11_led_26 rfl 0 rfl ?_
        refine r_bipush (pc := 27) dX11_led_27 kc_bipush_17 ?_
        obtain ⟨r6, hc7, h⟩ := ob h
        refine r_callS1 (pc := 29) (av := [vR (R a2 (Int32.toNatClampNeg x1)), vI (17 : Int32)]) (S := []) dX11_led_29 (kX11_takenFault hc7) mkX11_267 mwX11_takenFault rfl ⟨Nat.le_of_ble_eq_true rfl, Nat.le_of_ble_eq_true rfl⟩ (Nat.le_of_ble_eq_true rfl) ⟨Nat.le_refl _, Nat.le_refl _⟩ (fun b => b) ?_
        refine r_istore (pc := 32) (L' := [(4, vI r6), (3, vR (R a2 (Int32.toNatClampNeg x1))), (0, vR (some t)), (1, vI x1), (2, vI x2)]) dX11_led_32 (by decide) rfl ?_
        refine r_iload (pc := 34) dX11_led_34 0 rfl ?_
        refine r_ifne (pc := 36) (tgt := 43) dX11_led_36 rfl (fun c => ?_) (fun c => ?_)
        · have h := ie h c
          refine r_aload_n (pc := 43) dX11_led_43 rfl 2 rfl ?_
          refine r_iload (pc := 44) dX11_led_44 0 rfl ?_
          obtain ⟨⟨I8, r9⟩, hc10, h⟩ := ob h
          refine r_callV1 (pc := 46) (av := [vI r6]) (S := []) dX11_led_46 (kX11_fail hc10) g1 rfl mkX11_87 mwX11_fail rfl ⟨Nat.le_of_ble_eq_true rfl, Nat.le_of_ble_eq_true rfl⟩ (Nat.le_of_ble_eq_true rfl) ⟨Nat.le_refl _, Nat.le_refl _⟩ (fun b => b) ?_
          cases h
          exact r_iret dX11_led_49
        · have h := it h c
          refine r_aload_n (pc := 39) dX11_led_39 rfl 1 rfl ?_
          rcases onl_c h with ⟨ea11, h⟩ | ⟨a11, ha11, h⟩
          · refine r_ref0n ea11 ?_
            refine r_ifnonnull_n (pc := 40) dX11_led_40 ?_
            refine r_aload_n (pc := 43) dX11_led_43 rfl 2 rfl ?_
            refine r_iload (pc := 44) dX11_led_44 0 rfl ?_
            obtain ⟨⟨I12, r13⟩, hc14, h⟩ := ob h
            refine r_callV1 (pc := 46) (av := [vI r6]) (S := []) dX11_led_46 (kX11_fail hc14) g1 rfl mkX11_87 mwX11_fail rfl ⟨Nat.le_of_ble_eq_true rfl, Nat.le_of_ble_eq_true rfl⟩ (Nat.le_of_ble_eq_true rfl) ⟨Nat.le_refl _, Nat.le_refl _⟩ (fun b => b) ?_
            cases h
            exact r_iret dX11_led_49
          · refine r_ref0 ha11 ?_
            refine r_ifnonnull_s (pc := 40) (tgt := 50) dX11_led_40 rfl ?_
            refine r_aload_n (pc := 50) dX11_led_50 rfl 2 rfl ?_
            refine r_dup (pc := 51) dX11_led_51 rfl ?_
            refine r_getI (pc := 52) dX11_led_52 fgX11_270 rfl g1 ?_
            refine r_iconst (pc := 55) dX11_led_55 kc_iconst_1 ?_
            refine r_iadd (pc := 56) dX11_led_56 ?_
            refine r_putI (pc := 57) dX11_led_57 fwX11_270 rfl g1 ?_
            refine r_aload_n (pc := 60) dX11_led_60 rfl 1 rfl ?_
            refine r_ref0 ha11 ?_
            refine r_astore (pc := 61) (L' := [(5, vR (some a11)), (4, vI r6), (3, vR (R a2 (Int32.toNatClampNeg x1))), (0, vR (some t)), (1, vI x1), (2, vI x2)]) dX11_led_61 (by decide) rfl ?_
            refine r_aload_n (pc := 63) dX11_led_63 rfl 2 rfl ?_
            refine r_ref0 ha11 ?_
            refine r_astore (pc := 64) (L' := [(6, vR (some a11)), (5, vR (some a11)), (4, vI r6), (3, vR (R a2 (Int32.toNatClampNeg x1))), (0, vR (some t)), (1, vI x1), (2, vI x2)]) dX11_led_64 (by decide) rfl ?_
            refine r_iconst (pc := 66) dX11_led_66 kc_iconst_0 ?_
            refine r_istore (pc := 67) (L' := [(7, vI (0 : Int32)), (6, vR (some a11)), (5, vR (some a11)), (4, vI r6), (3, vR (R a2 (Int32.toNatClampNeg x1))), (0, vR (some t)), (1, vI x1), (2, vI x2)]) dX11_led_67 (by decide) rfl ?_
            refine r_sub [5, 7, 2, 1, 0] rfl ?_
            exact wX11_led_l69 _ _ _ _ _ _ h
      · have h := ie h c
        refine r_bipush (pc := 16) dX11_led_16 kc_bipush_m2 ?_
        cases h
        exact r_iret dX11_led_18
abbrev WX11_step (G : Gx) (l : Launch) (σ0 : Shp) (X1 : Stt) (rv : Option SV) : Stt → Nat → List (Nat × SV) → List SV → Prop := Wm G l yX11_step cX11_step 6 (some .int) (fun _ => True) (rmx 1 27 σ0 X1.1) σ0 (Qmx G σ0 X1 rv)
def fX11_step (σ : Shp) (I : Nat → Nat → Int32) (R : Nat → Nat → Option Nat) (t : Nat) (x1 : Int32) (x2 : Int32) (x3 : Int32) (x4 : Int32) (x5 : Int32) : Option ((Nat → Nat → Int32) × (Int32)) :=
  if (fX11_isPlan x1) = 0 then
    some (I, (-2 : Int32))
  else
    if x2 < 0 then
      some (I, (-2 : Int32))
    else
      if x2 ≤ (20 : Int32) then
        if kdx σ t = 12 then
        ((R t 3) : Option Nat).bind fun a2 =>
        if kdx σ a2 = 7 then
        (fX6_added σ I R a2 x1 x2 x3 x4 x5).bind fun (I4, r5) =>
        some (I4, r5)
        else none
        else none
      else
        some (I, (-2 : Int32))
theorem kX11_step {G : Gx} {l : Launch} {σ : Shp} {I : Nat → Nat → Int32} {J : Nat → Nat → Int64} {D : Nat → Nat → UInt64} {R : Nat → Nat → Option Nat} {t : Nat} {x1 : Int32} {x2 : Int32} {x3 : Int32} {x4 : Int32} {x5 : Int32} {I9 : Nat → Nat → Int32} {r9 : Int32} (h : fX11_step σ I R t x1 x2 x3 x4 x5 = some (I9, r9)) : Con G l yX11_step cX11_step 6 (some .int) 1 27 [vR (some t), vI x1, vI x2, vI x3, vI x4, vI x5] (σ, I, J, D, R) (σ, I9, J, D, R) (some (vI r9)) := by
  unfold fX11_step at h
  refine Con.mk (by decide +kernel) rfl (Nat.le_of_ble_eq_true rfl) ?_
  show WX11_step G l σ (σ, I9, J, D, R) (some (vI r9)) (σ, I, J, D, R) 0 _ []
  refine r_iload_n (pc := 0) dX11_step_0 rfl 1 rfl ?_
  refine r_callS1 (pc := 1) (av := [vI x1]) (S := []) dX11_step_1 (kX11_isPlan rfl) mkX11_277 mwX11_isPlan rfl ⟨Nat.le_of_ble_eq_true rfl, Nat.le_of_ble_eq_true rfl⟩ (Nat.le_of_ble_eq_true rfl) ⟨Nat.le_refl _, Nat.le_refl _⟩ (fun b => b) ?_
  refine r_if_eq (pc := 4) (tgt := 17) dX11_step_4 rfl (fun c => ?_) (fun c => ?_)
  · have h := it h c
    refine r_bipush (pc := 17) dX11_step_17 kc_bipush_m2 ?_
    cases h
    exact r_iret dX11_step_19
  · have h := ie h c
    refine r_iload_n (pc := 7) dX11_step_7 rfl 2 rfl ?_
    refine r_if_lt (pc := 8) (tgt := 17) dX11_step_8 rfl (fun c => ?_) (fun c => ?_)
    · have h := it h c
      refine r_bipush (pc := 17) dX11_step_17 kc_bipush_m2 ?_
      cases h
      exact r_iret dX11_step_19
    · have h := ie h c
      refine r_iload_n (pc := 11) dX11_step_11 rfl 2 rfl ?_
      refine r_bipush (pc := 12) dX11_step_12 kc_bipush_20 ?_
      refine r_icmp_le (pc := 14) (tgt := 20) dX11_step_14 rfl (fun c => ?_) (fun c => ?_)
      · have h := it h c
        refine r_aload_n (pc := 20) dX11_step_20 rfl 0 rfl ?_
        obtain ⟨g1, h⟩ := gd h
        obtain ⟨a2, ha2, h⟩ := ob h
        refine r_getS (pc := 21) dX11_step_21 fgX11_30 rfl g1 ha2 ?_
        refine r_iload_n (pc := 24) dX11_step_24 rfl 1 rfl ?_
        refine r_iload_n (pc := 25) dX11_step_25 rfl 2 rfl ?_
        refine r_iload_n (pc := 26) dX11_step_26 rfl 3 rfl ?_
        refine r_iload (pc := 27) dX11_step_27 4 rfl ?_
        refine r_iload (pc := 29) dX11_step_29 5 rfl ?_
        obtain ⟨g3, h⟩ := gd h
        obtain ⟨⟨I4, r5⟩, hc6, h⟩ := ob h
        refine r_callV1 (pc := 31) (av := [vI x1, vI x2, vI x3, vI x4, vI x5]) (S := []) dX11_step_31 (kX6_added hc6) g3 rfl mkX11_280 mwX6_added rfl ⟨Nat.le_of_ble_eq_true rfl, Nat.le_of_ble_eq_true rfl⟩ (Nat.le_of_ble_eq_true rfl) ⟨Nat.le_refl _, Nat.le_refl _⟩ (fun b => b) ?_
        cases h
        exact r_iret dX11_step_34
      · have h := ie h c
        refine r_bipush (pc := 17) dX11_step_17 kc_bipush_m2 ?_
        cases h
        exact r_iret dX11_step_19
abbrev WX11_drop (G : Gx) (l : Launch) (σ0 : Shp) (X1 : Stt) (rv : Option SV) : Stt → Nat → List (Nat × SV) → List SV → Prop := Wm G l yX11_drop cX11_drop 2 (some .int) (fun _ => True) (rmx 1 22 σ0 X1.1) σ0 (Qmx G σ0 X1 rv)
def fX11_drop (σ : Shp) (I : Nat → Nat → Int32) (R : Nat → Nat → Option Nat) (t : Nat) (x1 : Int32) : Option ((Nat → Nat → Int32) × (Int32)) :=
  if (fX11_isPlan x1) = 0 then
    some (I, (-2 : Int32))
  else
    if kdx σ t = 12 then
    ((R t 3) : Option Nat).bind fun a2 =>
    if kdx σ a2 = 7 then
    (fX6_emptied σ I R a2 x1).bind fun (I4, r5) =>
    some (I4, r5)
    else none
    else none
theorem kX11_drop {G : Gx} {l : Launch} {σ : Shp} {I : Nat → Nat → Int32} {J : Nat → Nat → Int64} {D : Nat → Nat → UInt64} {R : Nat → Nat → Option Nat} {t : Nat} {x1 : Int32} {I9 : Nat → Nat → Int32} {r9 : Int32} (h : fX11_drop σ I R t x1 = some (I9, r9)) : Con G l yX11_drop cX11_drop 2 (some .int) 1 22 [vR (some t), vI x1] (σ, I, J, D, R) (σ, I9, J, D, R) (some (vI r9)) := by
  unfold fX11_drop at h
  refine Con.mk (by decide +kernel) rfl (Nat.le_of_ble_eq_true rfl) ?_
  show WX11_drop G l σ (σ, I9, J, D, R) (some (vI r9)) (σ, I, J, D, R) 0 _ []
  refine r_iload_n (pc := 0) dX11_drop_0 rfl 1 rfl ?_
  refine r_callS1 (pc := 1) (av := [vI x1]) (S := []) dX11_drop_1 (kX11_isPlan rfl) mkX11_277 mwX11_isPlan rfl ⟨Nat.le_of_ble_eq_true rfl, Nat.le_of_ble_eq_true rfl⟩ (Nat.le_of_ble_eq_true rfl) ⟨Nat.le_refl _, Nat.le_refl _⟩ (fun b => b) ?_
  refine r_if_eq (pc := 4) (tgt := 18) dX11_drop_4 rfl (fun c => ?_) (fun c => ?_)
  · have h := it h c
    refine r_bipush (pc := 18) dX11_drop_18 kc_bipush_m2 ?_
    cases h
    exact r_iret dX11_drop_20
  · have h := ie h c
    refine r_aload_n (pc := 7) dX11_drop_7 rfl 0 rfl ?_
    obtain ⟨g1, h⟩ := gd h
    obtain ⟨a2, ha2, h⟩ := ob h
    refine r_getS (pc := 8) dX11_drop_8 fgX11_30 rfl g1 ha2 ?_
    refine r_iload_n (pc := 11) dX11_drop_11 rfl 1 rfl ?_
    obtain ⟨g3, h⟩ := gd h
    obtain ⟨⟨I4, r5⟩, hc6, h⟩ := ob h
    refine r_callV1 (pc := 12) (av := [vI x1]) (S := []) dX11_drop_12 (kX6_emptied hc6) g3 rfl mkX11_286 mwX6_emptied rfl ⟨Nat.le_of_ble_eq_true rfl, Nat.le_of_ble_eq_true rfl⟩ (Nat.le_of_ble_eq_true rfl) ⟨Nat.le_refl _, Nat.le_refl _⟩ (fun b => b) ?_
    refine r_goto (pc := 15) (tgt := 20) dX11_drop_15 rfl ?_
    cases h
    exact r_iret dX11_drop_20
abbrev WX11_formed (G : Gx) (l : Launch) (σ0 : Shp) (X1 : Stt) (rv : Option SV) : Stt → Nat → List (Nat × SV) → List SV → Prop := Wm G l yX11_formed cX11_formed 2 (some .int) (fun _ => True) (rmx 1 26 σ0 X1.1) σ0 (Qmx G σ0 X1 rv)
def fX11_formed (σ : Shp) (I : Nat → Nat → Int32) (R : Nat → Nat → Option Nat) (t : Nat) (x1 : Int32) : Option ((Nat → Nat → Int32) × (Int32)) :=
  if (fX11_isPlan x1) = 0 then
    some (I, (0 : Int32))
  else
    if kdx σ t = 12 then
    ((R t 3) : Option Nat).bind fun a2 =>
    if kdx σ a2 = 7 then
    (fX6_firstWrong σ I R a2 x1).bind fun (I4, r5) =>
    some (I4, r5)
    else none
    else none
theorem kX11_formed {G : Gx} {l : Launch} {σ : Shp} {I : Nat → Nat → Int32} {J : Nat → Nat → Int64} {D : Nat → Nat → UInt64} {R : Nat → Nat → Option Nat} {t : Nat} {x1 : Int32} {I9 : Nat → Nat → Int32} {r9 : Int32} (h : fX11_formed σ I R t x1 = some (I9, r9)) : Con G l yX11_formed cX11_formed 2 (some .int) 1 26 [vR (some t), vI x1] (σ, I, J, D, R) (σ, I9, J, D, R) (some (vI r9)) := by
  unfold fX11_formed at h
  refine Con.mk (by decide +kernel) rfl (Nat.le_of_ble_eq_true rfl) ?_
  show WX11_formed G l σ (σ, I9, J, D, R) (some (vI r9)) (σ, I, J, D, R) 0 _ []
  refine r_iload_n (pc := 0) dX11_formed_0 rfl 1 rfl ?_
  refine r_callS1 (pc := 1) (av := [vI x1]) (S := []) dX11_formed_1 (kX11_isPlan rfl) mkX11_277 mwX11_isPlan rfl ⟨Nat.le_of_ble_eq_true rfl, Nat.le_of_ble_eq_true rfl⟩ (Nat.le_of_ble_eq_true rfl) ⟨Nat.le_refl _, Nat.le_refl _⟩ (fun b => b) ?_
  refine r_if_eq (pc := 4) (tgt := 18) dX11_formed_4 rfl (fun c => ?_) (fun c => ?_)
  · have h := it h c
    refine r_iconst (pc := 18) dX11_formed_18 kc_iconst_0 ?_
    cases h
    exact r_iret dX11_formed_19
  · have h := ie h c
    refine r_aload_n (pc := 7) dX11_formed_7 rfl 0 rfl ?_
    obtain ⟨g1, h⟩ := gd h
    obtain ⟨a2, ha2, h⟩ := ob h
    refine r_getS (pc := 8) dX11_formed_8 fgX11_30 rfl g1 ha2 ?_
    refine r_iload_n (pc := 11) dX11_formed_11 rfl 1 rfl ?_
    obtain ⟨g3, h⟩ := gd h
    obtain ⟨⟨I4, r5⟩, hc6, h⟩ := ob h
    refine r_callV1 (pc := 12) (av := [vI x1]) (S := []) dX11_formed_12 (kX6_firstWrong hc6) g3 rfl mkX11_289 mwX6_firstWrong rfl ⟨Nat.le_of_ble_eq_true rfl, Nat.le_of_ble_eq_true rfl⟩ (Nat.le_of_ble_eq_true rfl) ⟨Nat.le_refl _, Nat.le_refl _⟩ (fun b => b) ?_
    refine r_goto (pc := 15) (tgt := 19) dX11_formed_15 rfl ?_
    cases h
    exact r_iret dX11_formed_19
abbrev WX11_run (G : Gx) (l : Launch) (σ0 : Shp) (X1 : Stt) (rv : Option SV) : Stt → Nat → List (Nat × SV) → List SV → Prop := Wm G l yX11_run cX11_run 3 (some .int) (fun _ => True) (rmx 15 355 σ0 X1.1) σ0 (Qmx G σ0 X1 rv)
def fX11_run_b43  (t : Nat) (σ : Shp) (I : Nat → Nat → Int32) (J : Nat → Nat → Int64) (R : Nat → Nat → Option Nat) (s0 : Int32) : Option ((Shp) × (Nat → Nat → Int32) × (Nat → Nat → Int64) × (Nat → Nat → Option Nat) × (Int32)) :=
  if kdx σ t = 12 then
  ((R t 0) : Option Nat).bind fun a18 =>
  if kdx σ a18 = 8 then
  (fX7_toldOf σ I R a18 (8 : Int32)).bind fun r20 =>
  let I22 := u2 I t 13 ((I t 13) + r20)
  (fX7_faultOut σ I22 R a18).bind fun r23 =>
  if r23 = 0 then
    some (σ, I22, J, R, s0)
  else
    (fX7_faultOut σ I22 R a18).bind fun r25 =>
    let I27 := u2 I22 t 14 r25
    some (σ, I27, J, R, s0)
  else none
  else none
theorem mX11_run_b43 {σ : Shp} {I : Nat → Nat → Int32} {J : Nat → Nat → Int64} {R : Nat → Nat → Option Nat} {t : Nat} {σ9 : Shp} {I9 : Nat → Nat → Int32} {J9 : Nat → Nat → Int64} {R9 : Nat → Nat → Option Nat} {r9 : Int32} {s0 : Int32} (h : fX11_run_b43 t σ I J R s0 = some (σ9, I9, J9, R9, r9)) : Lex σ σ9 := by
  unfold fX11_run_b43 at h
  replace h := (gd h).2
  obtain ⟨a18, ha18, h⟩ := ob h
  replace h := (gd h).2
  obtain ⟨r20, hc21, h⟩ := ob h
  obtain ⟨r23, hc24, h⟩ := ob h
  rcases itc h with ⟨c, h⟩ | ⟨c, h⟩
  · cases h
    exact ⟨Nat.le_refl _, Nat.le_refl _⟩
  · obtain ⟨r25, hc26, h⟩ := ob h
    cases h
    exact ⟨Nat.le_refl _, Nat.le_refl _⟩
theorem wX11_run_b43 {G : Gx} {l : Launch} {σ0 : Shp} {σ : Shp} {I : Nat → Nat → Int32} {J : Nat → Nat → Int64} {D : Nat → Nat → UInt64} {R : Nat → Nat → Option Nat} {t : Nat} {σ9 : Shp} {I9 : Nat → Nat → Int32} {J9 : Nat → Nat → Int64} {R9 : Nat → Nat → Option Nat} {r9 : Int32} {s0 : Int32} (h : fX11_run_b43 t σ I J R s0 = some (σ9, I9, J9, R9, r9)) : WX11_run G l σ0 (σ9, I9, J9, D, R9) (some (vI r9)) (σ, I, J, D, R) 43 [(0, vR (some t))] [vI s0] := by
  unfold fX11_run_b43 at h
  refine r_istore_n (pc := 43) (L' := [(2, vI s0), (0, vR (some t))]) dX11_run_43 rfl (by decide) rfl ?_
  refine r_aload_n (pc := 44) dX11_run_44 rfl 1 rfl ?_
  refine r_dup (pc := 45) dX11_run_45 rfl ?_
  obtain ⟨g17, h⟩ := gd h
  refine r_getI (pc := 46) dX11_run_46 fgX11_295 rfl g17 ?_
  refine r_aload_n (pc := 49) dX11_run_49 rfl 1 rfl ?_
  obtain ⟨a18, ha18, h⟩ := ob h
  refine r_getS (pc := 50) dX11_run_50 fgX11_10 rfl g17 ha18 ?_
  refine r_bipush (pc := 53) dX11_run_53 kc_bipush_8 ?_
  obtain ⟨g19, h⟩ := gd h
  obtain ⟨r20, hc21, h⟩ := ob h
  refine r_callV1 (pc := 55) (av := [vI (8 : Int32)]) (S := [vI (I t 13), vR (some t)]) dX11_run_55 (kX7_toldOf hc21) g19 rfl mkX11_298 mwX7_toldOf rfl ⟨Nat.le_of_ble_eq_true rfl, Nat.le_of_ble_eq_true rfl⟩ (Nat.le_of_ble_eq_true rfl) ⟨Nat.le_refl _, Nat.le_refl _⟩ (fun b => b) ?_
  refine r_iadd (pc := 58) dX11_run_58 ?_
  refine r_putI (pc := 59) dX11_run_59 fwX11_295 rfl g17 ?_
  refine r_aload_n (pc := 62) dX11_run_62 rfl 1 rfl ?_
  refine r_getS (pc := 63) dX11_run_63 fgX11_10 rfl g17 ha18 ?_
  obtain ⟨r23, hc24, h⟩ := ob h
  refine r_callV1 (pc := 66) (av := []) (S := []) dX11_run_66 (kX7_faultOut hc24) g19 rfl mkX11_301 mwX7_faultOut rfl ⟨Nat.le_of_ble_eq_true rfl, Nat.le_of_ble_eq_true rfl⟩ (Nat.le_of_ble_eq_true rfl) ⟨Nat.le_refl _, Nat.le_refl _⟩ (fun b => b) ?_
  refine r_if_eq (pc := 69) (tgt := 83) dX11_run_69 rfl (fun c => ?_) (fun c => ?_)
  · have h := it h c
    refine r_iload_n (pc := 83) dX11_run_83 rfl 0 rfl ?_
    cases h
    exact r_iret dX11_run_84
  · have h := ie h c
    refine r_aload_n (pc := 72) dX11_run_72 rfl 1 rfl ?_
    refine r_aload_n (pc := 73) dX11_run_73 rfl 1 rfl ?_
    refine r_getS (pc := 74) dX11_run_74 fgX11_10 rfl g17 ha18 ?_
    obtain ⟨r25, hc26, h⟩ := ob h
    refine r_callV1 (pc := 77) (av := []) (S := [vR (some t)]) dX11_run_77 (kX7_faultOut hc26) g19 rfl mkX11_301 mwX7_faultOut rfl ⟨Nat.le_of_ble_eq_true rfl, Nat.le_of_ble_eq_true rfl⟩ (Nat.le_of_ble_eq_true rfl) ⟨Nat.le_refl _, Nat.le_refl _⟩ (fun b => b) ?_
    refine r_putI (pc := 80) dX11_run_80 fwX11_304 rfl g17 ?_
    refine r_iload_n (pc := 83) dX11_run_83 rfl 0 rfl ?_
    cases h
    exact r_iret dX11_run_84
def fX11_run (σ : Shp) (I : Nat → Nat → Int32) (J : Nat → Nat → Int64) (R : Nat → Nat → Option Nat) (t : Nat) (x1 : Int32) : Option ((Shp) × (Nat → Nat → Int32) × (Nat → Nat → Int64) × (Nat → Nat → Option Nat) × (Int32)) :=
  if (fX11_isPlan x1) = 0 then
    some (σ, I, J, R, (-2 : Int32))
  else
    if kdx σ t = 12 then
    ((R t 3) : Option Nat).bind fun a2 =>
    if kdx σ a2 = 7 then
    (fX6_firstWrong σ I R a2 x1).bind fun (I4, r5) =>
    if r5 = (-1 : Int32) then
      (fX11_isFull σ I4 t).bind fun r7 =>
      if r7 = 0 then
        ((R t 0) : Option Nat).bind fun a9 =>
        if kdx σ a9 = 8 then
        (fX7_wholeRun σ I4 J R a9 x1).bind fun (σ11, I12, J13, R14, r15) =>
        fX11_run_b43 t σ11 I12 J13 R14 r15
        else none
      else
        some (σ, I4, J, R, (-4 : Int32))
    else
      some (σ, I4, J, R, (-3 : Int32))
    else none
    else none
theorem mX11_run {σ : Shp} {I : Nat → Nat → Int32} {J : Nat → Nat → Int64} {R : Nat → Nat → Option Nat} {t : Nat} {x1 : Int32} {σ9 : Shp} {I9 : Nat → Nat → Int32} {J9 : Nat → Nat → Int64} {R9 : Nat → Nat → Option Nat} {r9 : Int32} (h : fX11_run σ I J R t x1 = some (σ9, I9, J9, R9, r9)) : Lex σ σ9 := by
  unfold fX11_run at h
  rcases itc h with ⟨c, h⟩ | ⟨c, h⟩
  · cases h
    exact ⟨Nat.le_refl _, Nat.le_refl _⟩
  · replace h := (gd h).2
    obtain ⟨a2, ha2, h⟩ := ob h
    replace h := (gd h).2
    obtain ⟨⟨I4, r5⟩, hc6, h⟩ := ob h
    rcases itc h with ⟨c, h⟩ | ⟨c, h⟩
    · obtain ⟨r7, hc8, h⟩ := ob h
      rcases itc h with ⟨c, h⟩ | ⟨c, h⟩
      · obtain ⟨a9, ha9, h⟩ := ob h
        replace h := (gd h).2
        obtain ⟨⟨σ11, I12, J13, R14, r15⟩, hc16, h⟩ := ob h
        refine Lex.trans (mX7_wholeRun hc16) ?_
        exact mX11_run_b43 h
      · cases h
        exact ⟨Nat.le_refl _, Nat.le_refl _⟩
    · cases h
      exact ⟨Nat.le_refl _, Nat.le_refl _⟩
theorem kX11_run {G : Gx} {l : Launch} {σ : Shp} {I : Nat → Nat → Int32} {J : Nat → Nat → Int64} {D : Nat → Nat → UInt64} {R : Nat → Nat → Option Nat} {t : Nat} {x1 : Int32} {σ9 : Shp} {I9 : Nat → Nat → Int32} {J9 : Nat → Nat → Int64} {R9 : Nat → Nat → Option Nat} {r9 : Int32} (h : fX11_run σ I J R t x1 = some (σ9, I9, J9, R9, r9)) : Con G l yX11_run cX11_run 3 (some .int) 15 355 [vR (some t), vI x1] (σ, I, J, D, R) (σ9, I9, J9, D, R9) (some (vI r9)) := by
  unfold fX11_run at h
  refine Con.mk (by decide +kernel) rfl (Nat.le_of_ble_eq_true rfl) ?_
  show WX11_run G l σ (σ9, I9, J9, D, R9) (some (vI r9)) (σ, I, J, D, R) 0 _ []
  refine r_iload_n (pc := 0) dX11_run_0 rfl 1 rfl ?_
  refine r_callS1 (pc := 1) (av := [vI x1]) (S := []) dX11_run_1 (kX11_isPlan rfl) mkX11_277 mwX11_isPlan rfl ⟨Nat.le_of_ble_eq_true rfl, Nat.le_of_ble_eq_true rfl⟩ (Nat.le_of_ble_eq_true rfl) ⟨Nat.le_refl _, Nat.le_refl _⟩ (fun b => b) ?_
  refine r_ifne (pc := 4) (tgt := 10) dX11_run_4 rfl (fun c => ?_) (fun c => ?_)
  · have h := ie h c
    refine r_aload_n (pc := 10) dX11_run_10 rfl 0 rfl ?_
    obtain ⟨g1, h⟩ := gd h
    obtain ⟨a2, ha2, h⟩ := ob h
    refine r_getS (pc := 11) dX11_run_11 fgX11_30 rfl g1 ha2 ?_
    refine r_iload_n (pc := 14) dX11_run_14 rfl 1 rfl ?_
    obtain ⟨g3, h⟩ := gd h
    obtain ⟨⟨I4, r5⟩, hc6, h⟩ := ob h
    refine r_callV1 (pc := 15) (av := [vI x1]) (S := []) dX11_run_15 (kX6_firstWrong hc6) g3 rfl mkX11_289 mwX6_firstWrong rfl ⟨Nat.le_of_ble_eq_true rfl, Nat.le_of_ble_eq_true rfl⟩ (Nat.le_of_ble_eq_true rfl) ⟨Nat.le_refl _, Nat.le_refl _⟩ (fun b => b) ?_
    refine r_iconst (pc := 18) dX11_run_18 kc_iconst_m1 ?_
    refine r_icmp_eq (pc := 19) (tgt := 25) dX11_run_19 rfl (fun c => ?_) (fun c => ?_)
    · have h := it h c
      refine r_aload_n (pc := 25) dX11_run_25 rfl 0 rfl ?_
      obtain ⟨r7, hc8, h⟩ := ob h
      refine r_callV1 (pc := 26) (av := []) (S := []) dX11_run_26 (kX11_isFull hc8) g1 rfl mkX11_83 mwX11_isFull rfl ⟨Nat.le_of_ble_eq_true rfl, Nat.le_of_ble_eq_true rfl⟩ (Nat.le_of_ble_eq_true rfl) ⟨Nat.le_refl _, Nat.le_refl _⟩ (fun b => b) ?_
      refine r_if_eq (pc := 29) (tgt := 35) dX11_run_29 rfl (fun c => ?_) (fun c => ?_)
      · have h := it h c
        refine r_aload_n (pc := 35) dX11_run_35 rfl 0 rfl ?_
        obtain ⟨a9, ha9, h⟩ := ob h
        refine r_getS (pc := 36) dX11_run_36 fgX11_10 rfl g1 ha9 ?_
        refine r_iload_n (pc := 39) dX11_run_39 rfl 1 rfl ?_
        obtain ⟨g10, h⟩ := gd h
        obtain ⟨⟨σ11, I12, J13, R14, r15⟩, hc16, h⟩ := ob h
        refine r_callV1 (pc := 40) (av := [vI x1]) (S := []) dX11_run_40 (kX7_wholeRun hc16) g10 rfl mkX11_292 mwX7_wholeRun rfl ⟨Nat.le_of_ble_eq_true rfl, Nat.le_of_ble_eq_true rfl⟩ (Nat.le_of_ble_eq_true rfl) (mX7_wholeRun hc16) (bdx_le (mX7_wholeRun hc16) (mX11_run_b43 h)) ?_
        refine r_sub [0] rfl ?_
        exact wX11_run_b43 h
      · have h := ie h c
        refine r_bipush (pc := 32) dX11_run_32 kc_bipush_m4 ?_
        cases h
        exact r_iret dX11_run_34
    · have h := ie h c
      refine r_bipush (pc := 22) dX11_run_22 kc_bipush_m3 ?_
      cases h
      exact r_iret dX11_run_24
  · have h := it h c
    refine r_bipush (pc := 7) dX11_run_7 kc_bipush_m2 ?_
    cases h
    exact r_iret dX11_run_9
abbrev WX11_ran (G : Gx) (l : Launch) (σ0 : Shp) (X1 : Stt) (rv : Option SV) : Stt → Nat → List (Nat × SV) → List SV → Prop := Wm G l yX11_ran cX11_ran 2 (some .int) (fun _ => True) (rmx 1 22 σ0 X1.1) σ0 (Qmx G σ0 X1 rv)
def fX11_ran (σ : Shp) (I : Nat → Nat → Int32) (R : Nat → Nat → Option Nat) (t : Nat) (x1 : Int32) : Option ((Int32)) :=
  if x1 < 0 then
    some (-2 : Int32)
  else
    if x1 ≤ (8 : Int32) then
      if kdx σ t = 12 then
      ((R t 0) : Option Nat).bind fun a2 =>
      if kdx σ a2 = 8 then
      (fX7_toldOf σ I R a2 x1).bind fun r4 =>
      some r4
      else none
      else none
    else
      some (-2 : Int32)
theorem kX11_ran {G : Gx} {l : Launch} {σ : Shp} {I : Nat → Nat → Int32} {J : Nat → Nat → Int64} {D : Nat → Nat → UInt64} {R : Nat → Nat → Option Nat} {t : Nat} {x1 : Int32} {r9 : Int32} (h : fX11_ran σ I R t x1 = some r9) : Con G l yX11_ran cX11_ran 2 (some .int) 1 22 [vR (some t), vI x1] (σ, I, J, D, R) (σ, I, J, D, R) (some (vI r9)) := by
  unfold fX11_ran at h
  refine Con.mk (by decide +kernel) rfl (Nat.le_of_ble_eq_true rfl) ?_
  show WX11_ran G l σ (σ, I, J, D, R) (some (vI r9)) (σ, I, J, D, R) 0 _ []
  refine r_iload_n (pc := 0) dX11_ran_0 rfl 1 rfl ?_
  refine r_if_lt (pc := 1) (tgt := 10) dX11_ran_1 rfl (fun c => ?_) (fun c => ?_)
  · have h := it h c
    refine r_bipush (pc := 10) dX11_ran_10 kc_bipush_m2 ?_
    cases h
    exact r_iret dX11_ran_12
  · have h := ie h c
    refine r_iload_n (pc := 4) dX11_ran_4 rfl 1 rfl ?_
    refine r_bipush (pc := 5) dX11_ran_5 kc_bipush_8 ?_
    refine r_icmp_le (pc := 7) (tgt := 13) dX11_ran_7 rfl (fun c => ?_) (fun c => ?_)
    · have h := it h c
      refine r_aload_n (pc := 13) dX11_ran_13 rfl 0 rfl ?_
      obtain ⟨g1, h⟩ := gd h
      obtain ⟨a2, ha2, h⟩ := ob h
      refine r_getS (pc := 14) dX11_ran_14 fgX11_10 rfl g1 ha2 ?_
      refine r_iload_n (pc := 17) dX11_ran_17 rfl 1 rfl ?_
      obtain ⟨g3, h⟩ := gd h
      obtain ⟨r4, hc5, h⟩ := ob h
      refine r_callV1 (pc := 18) (av := [vI x1]) (S := []) dX11_ran_18 (kX7_toldOf hc5) g3 rfl mkX11_298 mwX7_toldOf rfl ⟨Nat.le_of_ble_eq_true rfl, Nat.le_of_ble_eq_true rfl⟩ (Nat.le_of_ble_eq_true rfl) ⟨Nat.le_refl _, Nat.le_refl _⟩ (fun b => b) ?_
      cases h
      exact r_iret dX11_ran_21
    · have h := ie h c
      refine r_bipush (pc := 10) dX11_ran_10 kc_bipush_m2 ?_
      cases h
      exact r_iret dX11_ran_12
abbrev WX11_stock (G : Gx) (l : Launch) (σ0 : Shp) (X1 : Stt) (rv : Option SV) : Stt → Nat → List (Nat × SV) → List SV → Prop := Wm G l yX11_stock cX11_stock 2 (some .long) (fun _ => True) (rmx 1 20 σ0 X1.1) σ0 (Qmx G σ0 X1 rv)
def fX11_stock (σ : Shp) (J : Nat → Nat → Int64) (R : Nat → Nat → Option Nat) (t : Nat) (x1 : Int32) : Option ((Int64)) :=
  if (fX11_isStock x1) = 0 then
    some (0 : Int64)
  else
    if kdx σ t = 12 then
    ((R t 4) : Option Nat).bind fun a2 =>
    if kdx σ a2 = 9 then
    ((R a2 0) : Option Nat).bind fun a4 =>
    if kdx σ a4 = 21 then
    if ¬ (x1 < 0 ∨ lnx σ a4 ≤ Int32.toNatClampNeg x1) then
    some (J a4 (Int32.toNatClampNeg x1))
    else none
    else none
    else none
    else none
theorem kX11_stock {G : Gx} {l : Launch} {σ : Shp} {I : Nat → Nat → Int32} {J : Nat → Nat → Int64} {D : Nat → Nat → UInt64} {R : Nat → Nat → Option Nat} {t : Nat} {x1 : Int32} {r9 : Int64} (h : fX11_stock σ J R t x1 = some r9) : Con G l yX11_stock cX11_stock 2 (some .long) 1 20 [vR (some t), vI x1] (σ, I, J, D, R) (σ, I, J, D, R) (some (vL r9)) := by
  unfold fX11_stock at h
  refine Con.mk (by decide +kernel) rfl (Nat.le_of_ble_eq_true rfl) ?_
  show WX11_stock G l σ (σ, I, J, D, R) (some (vL r9)) (σ, I, J, D, R) 0 _ []
  refine r_iload_n (pc := 0) dX11_stock_0 rfl 1 rfl ?_
  refine r_callS1 (pc := 1) (av := [vI x1]) (S := []) dX11_stock_1 (kX11_isStock rfl) mkX11_307 mwX11_isStock rfl ⟨Nat.le_of_ble_eq_true rfl, Nat.le_of_ble_eq_true rfl⟩ (Nat.le_of_ble_eq_true rfl) ⟨Nat.le_refl _, Nat.le_refl _⟩ (fun b => b) ?_
  refine r_if_eq (pc := 4) (tgt := 19) dX11_stock_4 rfl (fun c => ?_) (fun c => ?_)
  · have h := it h c
    refine r_lconst (pc := 19) dX11_stock_19 kc_lconst_0 ?_
    cases h
    exact r_lret dX11_stock_20
  · have h := ie h c
    refine r_aload_n (pc := 7) dX11_stock_7 rfl 0 rfl ?_
    obtain ⟨g1, h⟩ := gd h
    obtain ⟨a2, ha2, h⟩ := ob h
    refine r_getS (pc := 8) dX11_stock_8 fgX11_35 rfl g1 ha2 ?_
    obtain ⟨g3, h⟩ := gd h
    obtain ⟨a4, ha4, h⟩ := ob h
    refine r_getS (pc := 11) dX11_stock_11 fgX11_310 rfl g3 ha4 ?_
    refine r_iload_n (pc := 14) dX11_stock_14 rfl 1 rfl ?_
    obtain ⟨g5, h⟩ := gd h
    obtain ⟨g6, h⟩ := gd h
    refine r_laload (pc := 15) dX11_stock_15 g5 g6 ?_
    refine r_goto (pc := 16) (tgt := 20) dX11_stock_16 rfl ?_
    cases h
    exact r_lret dX11_stock_20
abbrev WX11_setStock (G : Gx) (l : Launch) (σ0 : Shp) (X1 : Stt) (rv : Option SV) : Stt → Nat → List (Nat × SV) → List SV → Prop := Wm G l yX11_setStock cX11_setStock 4 (some .int) (fun _ => True) (rmx 1 20 σ0 X1.1) σ0 (Qmx G σ0 X1 rv)
def fX11_setStock (σ : Shp) (J : Nat → Nat → Int64) (R : Nat → Nat → Option Nat) (t : Nat) (x1 : Int32) (x2 : Int64) : Option ((Nat → Nat → Int64) × (Int32)) :=
  if (fX11_isStock x1) = 0 then
    some (J, (-2 : Int32))
  else
    if kdx σ t = 12 then
    ((R t 4) : Option Nat).bind fun a2 =>
    if kdx σ a2 = 9 then
    ((R a2 0) : Option Nat).bind fun a4 =>
    if kdx σ a4 = 21 then
    if ¬ (x1 < 0 ∨ lnx σ a4 ≤ Int32.toNatClampNeg x1) then
    let J7 := u2 J a4 (Int32.toNatClampNeg x1) x2
    some (J7, (1 : Int32))
    else none
    else none
    else none
    else none
theorem kX11_setStock {G : Gx} {l : Launch} {σ : Shp} {I : Nat → Nat → Int32} {J : Nat → Nat → Int64} {D : Nat → Nat → UInt64} {R : Nat → Nat → Option Nat} {t : Nat} {x1 : Int32} {x2 : Int64} {J9 : Nat → Nat → Int64} {r9 : Int32} (h : fX11_setStock σ J R t x1 x2 = some (J9, r9)) : Con G l yX11_setStock cX11_setStock 4 (some .int) 1 20 [vR (some t), vI x1, vL x2] (σ, I, J, D, R) (σ, I, J9, D, R) (some (vI r9)) := by
  unfold fX11_setStock at h
  refine Con.mk (by decide +kernel) rfl (Nat.le_of_ble_eq_true rfl) ?_
  show WX11_setStock G l σ (σ, I, J9, D, R) (some (vI r9)) (σ, I, J, D, R) 0 _ []
  refine r_iload_n (pc := 0) dX11_setStock_0 rfl 1 rfl ?_
  refine r_callS1 (pc := 1) (av := [vI x1]) (S := []) dX11_setStock_1 (kX11_isStock rfl) mkX11_307 mwX11_isStock rfl ⟨Nat.le_of_ble_eq_true rfl, Nat.le_of_ble_eq_true rfl⟩ (Nat.le_of_ble_eq_true rfl) ⟨Nat.le_refl _, Nat.le_refl _⟩ (fun b => b) ?_
  refine r_ifne (pc := 4) (tgt := 10) dX11_setStock_4 rfl (fun c => ?_) (fun c => ?_)
  · have h := ie h c
    refine r_aload_n (pc := 10) dX11_setStock_10 rfl 0 rfl ?_
    obtain ⟨g1, h⟩ := gd h
    obtain ⟨a2, ha2, h⟩ := ob h
    refine r_getS (pc := 11) dX11_setStock_11 fgX11_35 rfl g1 ha2 ?_
    obtain ⟨g3, h⟩ := gd h
    obtain ⟨a4, ha4, h⟩ := ob h
    refine r_getS (pc := 14) dX11_setStock_14 fgX11_310 rfl g3 ha4 ?_
    refine r_iload_n (pc := 17) dX11_setStock_17 rfl 1 rfl ?_
    refine r_lload_n (pc := 18) dX11_setStock_18 rfl 2 rfl ?_
    obtain ⟨g5, h⟩ := gd h
    obtain ⟨g6, h⟩ := gd h
    refine r_lastore (pc := 19) dX11_setStock_19 g5 g6 ?_
    refine r_iconst (pc := 20) dX11_setStock_20 kc_iconst_1 ?_
    cases h
    exact r_iret dX11_setStock_21
  · have h := it h c
    refine r_bipush (pc := 7) dX11_setStock_7 kc_bipush_m2 ?_
    cases h
    exact r_iret dX11_setStock_9
abbrev WX11_valve (G : Gx) (l : Launch) (σ0 : Shp) (X1 : Stt) (rv : Option SV) : Stt → Nat → List (Nat × SV) → List SV → Prop := Wm G l yX11_valve cX11_valve 3 (some .int) (fun _ => True) (rmx 1 20 σ0 X1.1) σ0 (Qmx G σ0 X1 rv)
def fX11_valve (σ : Shp) (I : Nat → Nat → Int32) (R : Nat → Nat → Option Nat) (t : Nat) (x1 : Int32) (x2 : Int32) : Option ((Int32)) :=
  if (fX11_isValve x1) = 0 then
    some (0 : Int32)
  else
    if x2 < 0 then
      some (0 : Int32)
    else
      if x2 ≤ (1 : Int32) then
        if x2 = 0 then
          if kdx σ t = 12 then
          ((R t 4) : Option Nat).bind fun a8 =>
          if kdx σ a8 = 9 then
          ((R a8 1) : Option Nat).bind fun a10 =>
          if kdx σ a10 = 20 then
          if ¬ (x1 < 0 ∨ lnx σ a10 ≤ Int32.toNatClampNeg x1) then
          some (I a10 (Int32.toNatClampNeg x1))
          else none
          else none
          else none
          else none
        else
          if kdx σ t = 12 then
          ((R t 4) : Option Nat).bind fun a2 =>
          if kdx σ a2 = 9 then
          ((R a2 2) : Option Nat).bind fun a4 =>
          if kdx σ a4 = 20 then
          if ¬ (x1 < 0 ∨ lnx σ a4 ≤ Int32.toNatClampNeg x1) then
          some (I a4 (Int32.toNatClampNeg x1))
          else none
          else none
          else none
          else none
      else
        some (0 : Int32)
theorem kX11_valve {G : Gx} {l : Launch} {σ : Shp} {I : Nat → Nat → Int32} {J : Nat → Nat → Int64} {D : Nat → Nat → UInt64} {R : Nat → Nat → Option Nat} {t : Nat} {x1 : Int32} {x2 : Int32} {r9 : Int32} (h : fX11_valve σ I R t x1 x2 = some r9) : Con G l yX11_valve cX11_valve 3 (some .int) 1 20 [vR (some t), vI x1, vI x2] (σ, I, J, D, R) (σ, I, J, D, R) (some (vI r9)) := by
  unfold fX11_valve at h
  refine Con.mk (by decide +kernel) rfl (Nat.le_of_ble_eq_true rfl) ?_
  show WX11_valve G l σ (σ, I, J, D, R) (some (vI r9)) (σ, I, J, D, R) 0 _ []
  refine r_iload_n (pc := 0) dX11_valve_0 rfl 1 rfl ?_
  refine r_callS1 (pc := 1) (av := [vI x1]) (S := []) dX11_valve_1 (kX11_isValve rfl) mkX11_315 mwX11_isValve rfl ⟨Nat.le_of_ble_eq_true rfl, Nat.le_of_ble_eq_true rfl⟩ (Nat.le_of_ble_eq_true rfl) ⟨Nat.le_refl _, Nat.le_refl _⟩ (fun b => b) ?_
  refine r_if_eq (pc := 4) (tgt := 16) dX11_valve_4 rfl (fun c => ?_) (fun c => ?_)
  · have h := it h c
    refine r_iconst (pc := 16) dX11_valve_16 kc_iconst_0 ?_
    cases h
    exact r_iret dX11_valve_17
  · have h := ie h c
    refine r_iload_n (pc := 7) dX11_valve_7 rfl 2 rfl ?_
    refine r_if_lt (pc := 8) (tgt := 16) dX11_valve_8 rfl (fun c => ?_) (fun c => ?_)
    · have h := it h c
      refine r_iconst (pc := 16) dX11_valve_16 kc_iconst_0 ?_
      cases h
      exact r_iret dX11_valve_17
    · have h := ie h c
      refine r_iload_n (pc := 11) dX11_valve_11 rfl 2 rfl ?_
      refine r_iconst (pc := 12) dX11_valve_12 kc_iconst_1 ?_
      refine r_icmp_le (pc := 13) (tgt := 18) dX11_valve_13 rfl (fun c => ?_) (fun c => ?_)
      · have h := it h c
        refine r_iload_n (pc := 18) dX11_valve_18 rfl 2 rfl ?_
        refine r_ifne (pc := 19) (tgt := 34) dX11_valve_19 rfl (fun c => ?_) (fun c => ?_)
        · have h := ie h c
          refine r_aload_n (pc := 34) dX11_valve_34 rfl 0 rfl ?_
          obtain ⟨g1, h⟩ := gd h
          obtain ⟨a2, ha2, h⟩ := ob h
          refine r_getS (pc := 35) dX11_valve_35 fgX11_35 rfl g1 ha2 ?_
          obtain ⟨g3, h⟩ := gd h
          obtain ⟨a4, ha4, h⟩ := ob h
          refine r_getS (pc := 38) dX11_valve_38 fgX11_322 rfl g3 ha4 ?_
          refine r_iload_n (pc := 41) dX11_valve_41 rfl 1 rfl ?_
          obtain ⟨g5, h⟩ := gd h
          obtain ⟨g6, h⟩ := gd h
          refine r_iaload (pc := 42) dX11_valve_42 g5 g6 ?_
          cases h
          exact r_iret dX11_valve_43
        · have h := it h c
          refine r_aload_n (pc := 22) dX11_valve_22 rfl 0 rfl ?_
          obtain ⟨g7, h⟩ := gd h
          obtain ⟨a8, ha8, h⟩ := ob h
          refine r_getS (pc := 23) dX11_valve_23 fgX11_35 rfl g7 ha8 ?_
          obtain ⟨g9, h⟩ := gd h
          obtain ⟨a10, ha10, h⟩ := ob h
          refine r_getS (pc := 26) dX11_valve_26 fgX11_318 rfl g9 ha10 ?_
          refine r_iload_n (pc := 29) dX11_valve_29 rfl 1 rfl ?_
          obtain ⟨g11, h⟩ := gd h
          obtain ⟨g12, h⟩ := gd h
          refine r_iaload (pc := 30) dX11_valve_30 g11 g12 ?_
          refine r_goto (pc := 31) (tgt := 43) dX11_valve_31 rfl ?_
          cases h
          exact r_iret dX11_valve_43
      · have h := ie h c
        refine r_iconst (pc := 16) dX11_valve_16 kc_iconst_0 ?_
        cases h
        exact r_iret dX11_valve_17
abbrev WX11_isTable (G : Gx) (l : Launch) (σ0 : Shp) (X1 : Stt) (rv : Option SV) : Stt → Nat → List (Nat × SV) → List SV → Prop := Wm G l yX11_isTable cX11_isTable 1 (some .boolean) (fun _ => True) (rmx 0 0 σ0 X1.1) σ0 (Qmx G σ0 X1 rv)
def fX11_isTable  (x0 : Int32) : (Int32) :=
  if x0 < 0 then
    (0 : Int32)
  else
    if (3 : Int32) ≤ x0 then
      (0 : Int32)
    else
      (1 : Int32)
theorem zX11_isTable  (x0 : Int32) : fX11_isTable x0 = 0 ∨ fX11_isTable x0 = 1 := by
  unfold fX11_isTable
  repeat' (first | refine itz ?_ ?_ | exact Or.inl rfl | exact Or.inr rfl)
theorem kX11_isTable {G : Gx} {l : Launch} {σ : Shp} {I : Nat → Nat → Int32} {J : Nat → Nat → Int64} {D : Nat → Nat → UInt64} {R : Nat → Nat → Option Nat} {x0 : Int32} {r9 : Int32} (h : fX11_isTable x0 = r9) : Con G l yX11_isTable cX11_isTable 1 (some .boolean) 0 0 [vI x0] (σ, I, J, D, R) (σ, I, J, D, R) (some (vI r9)) := by
  unfold fX11_isTable at h
  refine Con.mk (by decide +kernel) rfl (Nat.le_of_ble_eq_true rfl) ?_
  show WX11_isTable G l σ (σ, I, J, D, R) (some (vI r9)) (σ, I, J, D, R) 0 _ []
  refine r_iload_n (pc := 0) dX11_isTable_0 rfl 0 rfl ?_
  refine r_if_lt (pc := 1) (tgt := 13) dX11_isTable_1 rfl (fun c => ?_) (fun c => ?_)
  · have h := it h c
    refine r_iconst (pc := 13) dX11_isTable_13 kc_iconst_0 ?_
    subst h
    exact r_zret dX11_isTable_14 (Or.inl rfl)
  · have h := ie h c
    refine r_iload_n (pc := 4) dX11_isTable_4 rfl 0 rfl ?_
    refine r_iconst (pc := 5) dX11_isTable_5 kc_iconst_3 ?_
    refine r_icmp_ge (pc := 6) (tgt := 13) dX11_isTable_6 rfl (fun c => ?_) (fun c => ?_)
    · have h := it h c
      refine r_iconst (pc := 13) dX11_isTable_13 kc_iconst_0 ?_
      subst h
      exact r_zret dX11_isTable_14 (Or.inl rfl)
    · have h := ie h c
      refine r_iconst (pc := 9) dX11_isTable_9 kc_iconst_1 ?_
      refine r_goto (pc := 10) (tgt := 14) dX11_isTable_10 rfl ?_
      subst h
      exact r_zret dX11_isTable_14 (Or.inr rfl)
abbrev WX11_line (G : Gx) (l : Launch) (σ0 : Shp) (X1 : Stt) (rv : Option SV) : Stt → Nat → List (Nat × SV) → List SV → Prop := Wm G l yX11_line cX11_line 4 (some .int) (fun _ => True) (rmx 1 24 σ0 X1.1) σ0 (Qmx G σ0 X1 rv)
def fX11_line (σ : Shp) (I : Nat → Nat → Int32) (R : Nat → Nat → Option Nat) (t : Nat) (x1 : Int32) (x2 : Int32) (x3 : Int32) : Option ((Nat → Nat → Int32) × (Int32)) :=
  if (fX11_isTable x1) = 0 then
    some (I, (-2 : Int32))
  else
    if kdx σ t = 12 then
    ((R t 6) : Option Nat).bind fun a2 =>
    if kdx σ a2 = 10 then
    (fX9_lineAdded σ I R a2 x1 x2 x3).bind fun (I4, r5) =>
    some (I4, r5)
    else none
    else none
theorem kX11_line {G : Gx} {l : Launch} {σ : Shp} {I : Nat → Nat → Int32} {J : Nat → Nat → Int64} {D : Nat → Nat → UInt64} {R : Nat → Nat → Option Nat} {t : Nat} {x1 : Int32} {x2 : Int32} {x3 : Int32} {I9 : Nat → Nat → Int32} {r9 : Int32} (h : fX11_line σ I R t x1 x2 x3 = some (I9, r9)) : Con G l yX11_line cX11_line 4 (some .int) 1 24 [vR (some t), vI x1, vI x2, vI x3] (σ, I, J, D, R) (σ, I9, J, D, R) (some (vI r9)) := by
  unfold fX11_line at h
  refine Con.mk (by decide +kernel) rfl (Nat.le_of_ble_eq_true rfl) ?_
  show WX11_line G l σ (σ, I9, J, D, R) (some (vI r9)) (σ, I, J, D, R) 0 _ []
  refine r_iload_n (pc := 0) dX11_line_0 rfl 1 rfl ?_
  refine r_callS1 (pc := 1) (av := [vI x1]) (S := []) dX11_line_1 (kX11_isTable rfl) mkX11_325 mwX11_isTable rfl ⟨Nat.le_of_ble_eq_true rfl, Nat.le_of_ble_eq_true rfl⟩ (Nat.le_of_ble_eq_true rfl) ⟨Nat.le_refl _, Nat.le_refl _⟩ (fun b => b) ?_
  refine r_ifne (pc := 4) (tgt := 10) dX11_line_4 rfl (fun c => ?_) (fun c => ?_)
  · have h := ie h c
    refine r_aload_n (pc := 10) dX11_line_10 rfl 0 rfl ?_
    obtain ⟨g1, h⟩ := gd h
    obtain ⟨a2, ha2, h⟩ := ob h
    refine r_getS (pc := 11) dX11_line_11 fgX11_47 rfl g1 ha2 ?_
    refine r_iload_n (pc := 14) dX11_line_14 rfl 1 rfl ?_
    refine r_iload_n (pc := 15) dX11_line_15 rfl 2 rfl ?_
    refine r_iload_n (pc := 16) dX11_line_16 rfl 3 rfl ?_
    obtain ⟨g3, h⟩ := gd h
    obtain ⟨⟨I4, r5⟩, hc6, h⟩ := ob h
    refine r_callV1 (pc := 17) (av := [vI x1, vI x2, vI x3]) (S := []) dX11_line_17 (kX9_lineAdded hc6) g3 rfl mkX11_328 mwX9_lineAdded rfl ⟨Nat.le_of_ble_eq_true rfl, Nat.le_of_ble_eq_true rfl⟩ (Nat.le_of_ble_eq_true rfl) ⟨Nat.le_refl _, Nat.le_refl _⟩ (fun b => b) ?_
    cases h
    exact r_iret dX11_line_20
  · have h := it h c
    refine r_bipush (pc := 7) dX11_line_7 kc_bipush_m2 ?_
    cases h
    exact r_iret dX11_line_9
abbrev WX11_rest (G : Gx) (l : Launch) (σ0 : Shp) (X1 : Stt) (rv : Option SV) : Stt → Nat → List (Nat × SV) → List SV → Prop := Wm G l yX11_rest cX11_rest 3 (some .int) (fun _ => True) (rmx 1 22 σ0 X1.1) σ0 (Qmx G σ0 X1 rv)
def fX11_rest (σ : Shp) (I : Nat → Nat → Int32) (R : Nat → Nat → Option Nat) (t : Nat) (x1 : Int32) (x2 : Int32) : Option ((Nat → Nat → Int32) × (Int32)) :=
  if (fX11_isTable x1) = 0 then
    some (I, (-2 : Int32))
  else
    if x2 = (-1 : Int32) then
      if kdx σ t = 12 then
      ((R t 6) : Option Nat).bind fun a2 =>
      if kdx σ a2 = 10 then
      (fX9_rested σ I R a2 x1 x2).bind fun (I4, r5) =>
      some (I4, r5)
      else none
      else none
    else
      if (fX11_isTable x2) = 0 then
        some (I, (-2 : Int32))
      else
        if kdx σ t = 12 then
        ((R t 6) : Option Nat).bind fun a8 =>
        if kdx σ a8 = 10 then
        (fX9_rested σ I R a8 x1 x2).bind fun (I10, r11) =>
        some (I10, r11)
        else none
        else none
theorem kX11_rest {G : Gx} {l : Launch} {σ : Shp} {I : Nat → Nat → Int32} {J : Nat → Nat → Int64} {D : Nat → Nat → UInt64} {R : Nat → Nat → Option Nat} {t : Nat} {x1 : Int32} {x2 : Int32} {I9 : Nat → Nat → Int32} {r9 : Int32} (h : fX11_rest σ I R t x1 x2 = some (I9, r9)) : Con G l yX11_rest cX11_rest 3 (some .int) 1 22 [vR (some t), vI x1, vI x2] (σ, I, J, D, R) (σ, I9, J, D, R) (some (vI r9)) := by
  unfold fX11_rest at h
  refine Con.mk (by decide +kernel) rfl (Nat.le_of_ble_eq_true rfl) ?_
  show WX11_rest G l σ (σ, I9, J, D, R) (some (vI r9)) (σ, I, J, D, R) 0 _ []
  refine r_iload_n (pc := 0) dX11_rest_0 rfl 1 rfl ?_
  refine r_callS1 (pc := 1) (av := [vI x1]) (S := []) dX11_rest_1 (kX11_isTable rfl) mkX11_325 mwX11_isTable rfl ⟨Nat.le_of_ble_eq_true rfl, Nat.le_of_ble_eq_true rfl⟩ (Nat.le_of_ble_eq_true rfl) ⟨Nat.le_refl _, Nat.le_refl _⟩ (fun b => b) ?_
  refine r_if_eq (pc := 4) (tgt := 19) dX11_rest_4 rfl (fun c => ?_) (fun c => ?_)
  · have h := it h c
    refine r_bipush (pc := 19) dX11_rest_19 kc_bipush_m2 ?_
    cases h
    exact r_iret dX11_rest_21
  · have h := ie h c
    refine r_iload_n (pc := 7) dX11_rest_7 rfl 2 rfl ?_
    refine r_iconst (pc := 8) dX11_rest_8 kc_iconst_m1 ?_
    refine r_icmp_eq (pc := 9) (tgt := 22) dX11_rest_9 rfl (fun c => ?_) (fun c => ?_)
    · have h := it h c
      refine r_aload_n (pc := 22) dX11_rest_22 rfl 0 rfl ?_
      obtain ⟨g1, h⟩ := gd h
      obtain ⟨a2, ha2, h⟩ := ob h
      refine r_getS (pc := 23) dX11_rest_23 fgX11_47 rfl g1 ha2 ?_
      refine r_iload_n (pc := 26) dX11_rest_26 rfl 1 rfl ?_
      refine r_iload_n (pc := 27) dX11_rest_27 rfl 2 rfl ?_
      obtain ⟨g3, h⟩ := gd h
      obtain ⟨⟨I4, r5⟩, hc6, h⟩ := ob h
      refine r_callV1 (pc := 28) (av := [vI x1, vI x2]) (S := []) dX11_rest_28 (kX9_rested hc6) g3 rfl mkX11_333 mwX9_rested rfl ⟨Nat.le_of_ble_eq_true rfl, Nat.le_of_ble_eq_true rfl⟩ (Nat.le_of_ble_eq_true rfl) ⟨Nat.le_refl _, Nat.le_refl _⟩ (fun b => b) ?_
      cases h
      exact r_iret dX11_rest_31
    · have h := ie h c
      refine r_iload_n (pc := 12) dX11_rest_12 rfl 2 rfl ?_
      refine r_callS1 (pc := 13) (av := [vI x2]) (S := []) dX11_rest_13 (kX11_isTable rfl) mkX11_325 mwX11_isTable rfl ⟨Nat.le_of_ble_eq_true rfl, Nat.le_of_ble_eq_true rfl⟩ (Nat.le_of_ble_eq_true rfl) ⟨Nat.le_refl _, Nat.le_refl _⟩ (fun b => b) ?_
      refine r_ifne (pc := 16) (tgt := 22) dX11_rest_16 rfl (fun c => ?_) (fun c => ?_)
      · have h := ie h c
        refine r_aload_n (pc := 22) dX11_rest_22 rfl 0 rfl ?_
        obtain ⟨g7, h⟩ := gd h
        obtain ⟨a8, ha8, h⟩ := ob h
        refine r_getS (pc := 23) dX11_rest_23 fgX11_47 rfl g7 ha8 ?_
        refine r_iload_n (pc := 26) dX11_rest_26 rfl 1 rfl ?_
        refine r_iload_n (pc := 27) dX11_rest_27 rfl 2 rfl ?_
        obtain ⟨g9, h⟩ := gd h
        obtain ⟨⟨I10, r11⟩, hc12, h⟩ := ob h
        refine r_callV1 (pc := 28) (av := [vI x1, vI x2]) (S := []) dX11_rest_28 (kX9_rested hc12) g9 rfl mkX11_333 mwX9_rested rfl ⟨Nat.le_of_ble_eq_true rfl, Nat.le_of_ble_eq_true rfl⟩ (Nat.le_of_ble_eq_true rfl) ⟨Nat.le_refl _, Nat.le_refl _⟩ (fun b => b) ?_
        cases h
        exact r_iret dX11_rest_31
      · have h := it h c
        refine r_bipush (pc := 19) dX11_rest_19 kc_bipush_m2 ?_
        cases h
        exact r_iret dX11_rest_21
abbrev WX11_value (G : Gx) (l : Launch) (σ0 : Shp) (X1 : Stt) (rv : Option SV) : Stt → Nat → List (Nat × SV) → List SV → Prop := Wm G l yX11_value cX11_value 3 (some .int) (fun _ => True) (rmx 10 229 σ0 X1.1) σ0 (Qmx G σ0 X1 rv)
def fX11_value (σ : Shp) (I : Nat → Nat → Int32) (R : Nat → Nat → Option Nat) (t : Nat) (x1 : Int32) (x2 : Int32) : Option ((Nat → Nat → Int32) × (Int32)) :=
  if (fX11_isTable x1) = 0 then
    some (I, (0 : Int32))
  else
    if kdx σ t = 12 then
    ((R t 6) : Option Nat).bind fun a2 =>
    if kdx σ a2 = 10 then
    (fX9_valueAt σ I R a2 x1 x2).bind fun (I4, r5) =>
    some (I4, r5)
    else none
    else none
theorem kX11_value {G : Gx} {l : Launch} {σ : Shp} {I : Nat → Nat → Int32} {J : Nat → Nat → Int64} {D : Nat → Nat → UInt64} {R : Nat → Nat → Option Nat} {t : Nat} {x1 : Int32} {x2 : Int32} {I9 : Nat → Nat → Int32} {r9 : Int32} (h : fX11_value σ I R t x1 x2 = some (I9, r9)) : Con G l yX11_value cX11_value 3 (some .int) 10 229 [vR (some t), vI x1, vI x2] (σ, I, J, D, R) (σ, I9, J, D, R) (some (vI r9)) := by
  unfold fX11_value at h
  refine Con.mk (by decide +kernel) rfl (Nat.le_of_ble_eq_true rfl) ?_
  show WX11_value G l σ (σ, I9, J, D, R) (some (vI r9)) (σ, I, J, D, R) 0 _ []
  refine r_iload_n (pc := 0) dX11_value_0 rfl 1 rfl ?_
  refine r_callS1 (pc := 1) (av := [vI x1]) (S := []) dX11_value_1 (kX11_isTable rfl) mkX11_325 mwX11_isTable rfl ⟨Nat.le_of_ble_eq_true rfl, Nat.le_of_ble_eq_true rfl⟩ (Nat.le_of_ble_eq_true rfl) ⟨Nat.le_refl _, Nat.le_refl _⟩ (fun b => b) ?_
  refine r_if_eq (pc := 4) (tgt := 19) dX11_value_4 rfl (fun c => ?_) (fun c => ?_)
  · have h := it h c
    refine r_iconst (pc := 19) dX11_value_19 kc_iconst_0 ?_
    cases h
    exact r_iret dX11_value_20
  · have h := ie h c
    refine r_aload_n (pc := 7) dX11_value_7 rfl 0 rfl ?_
    obtain ⟨g1, h⟩ := gd h
    obtain ⟨a2, ha2, h⟩ := ob h
    refine r_getS (pc := 8) dX11_value_8 fgX11_47 rfl g1 ha2 ?_
    refine r_iload_n (pc := 11) dX11_value_11 rfl 1 rfl ?_
    refine r_iload_n (pc := 12) dX11_value_12 rfl 2 rfl ?_
    obtain ⟨g3, h⟩ := gd h
    obtain ⟨⟨I4, r5⟩, hc6, h⟩ := ob h
    refine r_callV1 (pc := 13) (av := [vI x1, vI x2]) (S := []) dX11_value_13 (kX9_valueAt hc6) g3 rfl mkX11_336 mwX9_valueAt rfl ⟨Nat.le_of_ble_eq_true rfl, Nat.le_of_ble_eq_true rfl⟩ (Nat.le_of_ble_eq_true rfl) ⟨Nat.le_refl _, Nat.le_refl _⟩ (fun b => b) ?_
    refine r_goto (pc := 16) (tgt := 20) dX11_value_16 rfl ?_
    cases h
    exact r_iret dX11_value_20
abbrev WX11_laid (G : Gx) (l : Launch) (σ0 : Shp) (X1 : Stt) (rv : Option SV) : Stt → Nat → List (Nat × SV) → List SV → Prop := Wm G l yX11_laid cX11_laid 2 (some .int) (fun _ => True) (rmx 1 21 σ0 X1.1) σ0 (Qmx G σ0 X1 rv)
def fX11_laid (σ : Shp) (I : Nat → Nat → Int32) (R : Nat → Nat → Option Nat) (t : Nat) (x1 : Int32) : Option ((Int32)) :=
  if kdx σ t = 12 then
  ((R t 6) : Option Nat).bind fun a2 =>
  if kdx σ a2 = 10 then
  (fX9_laidAt σ I R a2 x1).bind fun r4 =>
  some r4
  else none
  else none
theorem kX11_laid {G : Gx} {l : Launch} {σ : Shp} {I : Nat → Nat → Int32} {J : Nat → Nat → Int64} {D : Nat → Nat → UInt64} {R : Nat → Nat → Option Nat} {t : Nat} {x1 : Int32} {r9 : Int32} (h : fX11_laid σ I R t x1 = some r9) : Con G l yX11_laid cX11_laid 2 (some .int) 1 21 [vR (some t), vI x1] (σ, I, J, D, R) (σ, I, J, D, R) (some (vI r9)) := by
  unfold fX11_laid at h
  refine Con.mk (by decide +kernel) rfl (Nat.le_of_ble_eq_true rfl) ?_
  show WX11_laid G l σ (σ, I, J, D, R) (some (vI r9)) (σ, I, J, D, R) 0 _ []
  refine r_aload_n (pc := 0) dX11_laid_0 rfl 0 rfl ?_
  obtain ⟨g1, h⟩ := gd h
  obtain ⟨a2, ha2, h⟩ := ob h
  refine r_getS (pc := 1) dX11_laid_1 fgX11_47 rfl g1 ha2 ?_
  refine r_iload_n (pc := 4) dX11_laid_4 rfl 1 rfl ?_
  obtain ⟨g3, h⟩ := gd h
  obtain ⟨r4, hc5, h⟩ := ob h
  refine r_callV1 (pc := 5) (av := [vI x1]) (S := []) dX11_laid_5 (kX9_laidAt hc5) g3 rfl mkX11_339 mwX9_laidAt rfl ⟨Nat.le_of_ble_eq_true rfl, Nat.le_of_ble_eq_true rfl⟩ (Nat.le_of_ble_eq_true rfl) ⟨Nat.le_refl _, Nat.le_refl _⟩ (fun b => b) ?_
  cases h
  exact r_iret dX11_laid_8
abbrev WX11_isProbe (G : Gx) (l : Launch) (σ0 : Shp) (X1 : Stt) (rv : Option SV) : Stt → Nat → List (Nat × SV) → List SV → Prop := Wm G l yX11_isProbe cX11_isProbe 1 (some .boolean) (fun _ => True) (rmx 0 0 σ0 X1.1) σ0 (Qmx G σ0 X1 rv)
def fX11_isProbe  (x0 : Int32) : (Int32) :=
  if x0 < 0 then
    (0 : Int32)
  else
    if (9 : Int32) ≤ x0 then
      (0 : Int32)
    else
      (1 : Int32)
theorem zX11_isProbe  (x0 : Int32) : fX11_isProbe x0 = 0 ∨ fX11_isProbe x0 = 1 := by
  unfold fX11_isProbe
  repeat' (first | refine itz ?_ ?_ | exact Or.inl rfl | exact Or.inr rfl)
theorem kX11_isProbe {G : Gx} {l : Launch} {σ : Shp} {I : Nat → Nat → Int32} {J : Nat → Nat → Int64} {D : Nat → Nat → UInt64} {R : Nat → Nat → Option Nat} {x0 : Int32} {r9 : Int32} (h : fX11_isProbe x0 = r9) : Con G l yX11_isProbe cX11_isProbe 1 (some .boolean) 0 0 [vI x0] (σ, I, J, D, R) (σ, I, J, D, R) (some (vI r9)) := by
  unfold fX11_isProbe at h
  refine Con.mk (by decide +kernel) rfl (Nat.le_of_ble_eq_true rfl) ?_
  show WX11_isProbe G l σ (σ, I, J, D, R) (some (vI r9)) (σ, I, J, D, R) 0 _ []
  refine r_iload_n (pc := 0) dX11_isProbe_0 rfl 0 rfl ?_
  refine r_if_lt (pc := 1) (tgt := 14) dX11_isProbe_1 rfl (fun c => ?_) (fun c => ?_)
  · have h := it h c
    refine r_iconst (pc := 14) dX11_isProbe_14 kc_iconst_0 ?_
    subst h
    exact r_zret dX11_isProbe_15 (Or.inl rfl)
  · have h := ie h c
    refine r_iload_n (pc := 4) dX11_isProbe_4 rfl 0 rfl ?_
    refine r_bipush (pc := 5) dX11_isProbe_5 kc_bipush_9 ?_
    refine r_icmp_ge (pc := 7) (tgt := 14) dX11_isProbe_7 rfl (fun c => ?_) (fun c => ?_)
    · have h := it h c
      refine r_iconst (pc := 14) dX11_isProbe_14 kc_iconst_0 ?_
      subst h
      exact r_zret dX11_isProbe_15 (Or.inl rfl)
    · have h := ie h c
      refine r_iconst (pc := 10) dX11_isProbe_10 kc_iconst_1 ?_
      refine r_goto (pc := 11) (tgt := 15) dX11_isProbe_11 rfl ?_
      subst h
      exact r_zret dX11_isProbe_15 (Or.inr rfl)
abbrev WX11_read (G : Gx) (l : Launch) (σ0 : Shp) (X1 : Stt) (rv : Option SV) : Stt → Nat → List (Nat × SV) → List SV → Prop := Wm G l yX11_read cX11_read 4 (some .int) (fun _ => True) (rmx 3 77 σ0 X1.1) σ0 (Qmx G σ0 X1 rv)
def fX11_read (σ : Shp) (J : Nat → Nat → Int64) (D : Nat → Nat → UInt64) (R : Nat → Nat → Option Nat) (t : Nat) (x1 : Int32) (x2 : Int64) : Option ((Nat → Nat → Int64) × (Nat → Nat → UInt64) × (Int32)) :=
  if (fX11_isProbe x1) = 0 then
    some (J, D, (-2 : Int32))
  else
    if kdx σ t = 12 then
    ((R t 5) : Option Nat).bind fun a2 =>
    if kdx σ a2 = 5 then
    (fX4_takeReading σ J D R a2 x1 (fX11_cellOf (7 : Int32) x2)).bind fun (J4, D5) =>
    some (J4, D5, (1 : Int32))
    else none
    else none
theorem kX11_read {G : Gx} {l : Launch} {σ : Shp} {I : Nat → Nat → Int32} {J : Nat → Nat → Int64} {D : Nat → Nat → UInt64} {R : Nat → Nat → Option Nat} {t : Nat} {x1 : Int32} {x2 : Int64} {J9 : Nat → Nat → Int64} {D9 : Nat → Nat → UInt64} {r9 : Int32} (h : fX11_read σ J D R t x1 x2 = some (J9, D9, r9)) : Con G l yX11_read cX11_read 4 (some .int) 3 77 [vR (some t), vI x1, vL x2] (σ, I, J, D, R) (σ, I, J9, D9, R) (some (vI r9)) := by
  unfold fX11_read at h
  refine Con.mk (by decide +kernel) rfl (Nat.le_of_ble_eq_true rfl) ?_
  show WX11_read G l σ (σ, I, J9, D9, R) (some (vI r9)) (σ, I, J, D, R) 0 _ []
  refine r_iload_n (pc := 0) dX11_read_0 rfl 1 rfl ?_
  refine r_callS1 (pc := 1) (av := [vI x1]) (S := []) dX11_read_1 (kX11_isProbe rfl) mkX11_342 mwX11_isProbe rfl ⟨Nat.le_of_ble_eq_true rfl, Nat.le_of_ble_eq_true rfl⟩ (Nat.le_of_ble_eq_true rfl) ⟨Nat.le_refl _, Nat.le_refl _⟩ (fun b => b) ?_
  refine r_ifne (pc := 4) (tgt := 10) dX11_read_4 rfl (fun c => ?_) (fun c => ?_)
  · have h := ie h c
    refine r_aload_n (pc := 10) dX11_read_10 rfl 0 rfl ?_
    obtain ⟨g1, h⟩ := gd h
    obtain ⟨a2, ha2, h⟩ := ob h
    refine r_getS (pc := 11) dX11_read_11 fgX11_39 rfl g1 ha2 ?_
    refine r_iload_n (pc := 14) dX11_read_14 rfl 1 rfl ?_
    refine r_bipush (pc := 15) dX11_read_15 kc_bipush_7 ?_
    refine r_lload_n (pc := 17) dX11_read_17 rfl 2 rfl ?_
    refine r_callS1 (pc := 18) (av := [vI (7 : Int32), vL x2]) (S := [vI x1, vR (some a2)]) dX11_read_18 (kX11_cellOf rfl) mkX11_137 mwX11_cellOf rfl ⟨Nat.le_of_ble_eq_true rfl, Nat.le_of_ble_eq_true rfl⟩ (Nat.le_of_ble_eq_true rfl) ⟨Nat.le_refl _, Nat.le_refl _⟩ (fun b => b) ?_
    obtain ⟨g3, h⟩ := gd h
    obtain ⟨⟨J4, D5⟩, hc6, h⟩ := ob h
    refine r_callV0 (pc := 21) (av := [vI x1, vL (fX11_cellOf (7 : Int32) x2)]) (S := []) dX11_read_21 (kX4_takeReading hc6) g3 rfl mkX11_345 mwX4_takeReading rfl ⟨Nat.le_of_ble_eq_true rfl, Nat.le_of_ble_eq_true rfl⟩ (Nat.le_of_ble_eq_true rfl) ⟨Nat.le_refl _, Nat.le_refl _⟩ (fun b => b) ?_
    refine r_iconst (pc := 24) dX11_read_24 kc_iconst_1 ?_
    cases h
    exact r_iret dX11_read_25
  · have h := it h c
    refine r_bipush (pc := 7) dX11_read_7 kc_bipush_m2 ?_
    cases h
    exact r_iret dX11_read_9
abbrev WX11_part (G : Gx) (l : Launch) (σ0 : Shp) (X1 : Stt) (rv : Option SV) : Stt → Nat → List (Nat × SV) → List SV → Prop := Wm G l yX11_part cX11_part 3 (some .int) (fun _ => True) (rmx 2 54 σ0 X1.1) σ0 (Qmx G σ0 X1 rv)
def fX11_part (σ : Shp) (D : Nat → Nat → UInt64) (R : Nat → Nat → Option Nat) (t : Nat) (x1 : Int64) : Option ((Nat → Nat → UInt64) × (Int32)) :=
  if (fX11_isNumber x1) = 0 then
    some (D, (-2 : Int32))
  else
    (fX11_realOf x1).bind fun r1 =>
    if 0 ≤ (Op.cmpValue (FP.dcmp r1 (FP.dconst0)) .g) then
      if kdx σ t = 12 then
      ((R t 5) : Option Nat).bind fun a4 =>
      (fX11_realOf x1).bind fun r5 =>
      if kdx σ a4 = 5 then
      let D8 := u2 D a4 7 r5
      some (D8, (1 : Int32))
      else none
      else none
    else
      some (D, (-2 : Int32))
theorem kX11_part {G : Gx} {l : Launch} {σ : Shp} {I : Nat → Nat → Int32} {J : Nat → Nat → Int64} {D : Nat → Nat → UInt64} {R : Nat → Nat → Option Nat} {t : Nat} {x1 : Int64} {D9 : Nat → Nat → UInt64} {r9 : Int32} (h : fX11_part σ D R t x1 = some (D9, r9)) : Con G l yX11_part cX11_part 3 (some .int) 2 54 [vR (some t), vL x1] (σ, I, J, D, R) (σ, I, J, D9, R) (some (vI r9)) := by
  unfold fX11_part at h
  refine Con.mk (by decide +kernel) rfl (Nat.le_of_ble_eq_true rfl) ?_
  show WX11_part G l σ (σ, I, J, D9, R) (some (vI r9)) (σ, I, J, D, R) 0 _ []
  refine r_lload_n (pc := 0) dX11_part_0 rfl 1 rfl ?_
  refine r_callS1 (pc := 1) (av := [vL x1]) (S := []) dX11_part_1 (kX11_isNumber rfl) mkX11_349 mwX11_isNumber rfl ⟨Nat.le_of_ble_eq_true rfl, Nat.le_of_ble_eq_true rfl⟩ (Nat.le_of_ble_eq_true rfl) ⟨Nat.le_refl _, Nat.le_refl _⟩ (fun b => b) ?_
  refine r_if_eq (pc := 4) (tgt := 16) dX11_part_4 rfl (fun c => ?_) (fun c => ?_)
  · have h := it h c
    refine r_bipush (pc := 16) dX11_part_16 kc_bipush_m2 ?_
    cases h
    exact r_iret dX11_part_18
  · have h := ie h c
    refine r_lload_n (pc := 7) dX11_part_7 rfl 1 rfl ?_
    obtain ⟨r1, hc2, h⟩ := ob h
    refine r_callS1 (pc := 8) (av := [vL x1]) (S := []) dX11_part_8 (kX11_realOf hc2) mkX11_353 mwX11_realOf rfl ⟨Nat.le_of_ble_eq_true rfl, Nat.le_of_ble_eq_true rfl⟩ (Nat.le_of_ble_eq_true rfl) ⟨Nat.le_refl _, Nat.le_refl _⟩ (fun b => b) ?_
    refine r_dconst0 (pc := 11) dX11_part_11 ?_
    refine r_dcmp (pc := 12) dX11_part_12 ?_
    refine r_ifge (pc := 13) (tgt := 19) dX11_part_13 rfl (fun c => ?_) (fun c => ?_)
    · have h := it h c
      refine r_aload_n (pc := 19) dX11_part_19 rfl 0 rfl ?_
      obtain ⟨g3, h⟩ := gd h
      obtain ⟨a4, ha4, h⟩ := ob h
      refine r_getS (pc := 20) dX11_part_20 fgX11_39 rfl g3 ha4 ?_
      refine r_lload_n (pc := 23) dX11_part_23 rfl 1 rfl ?_
      obtain ⟨r5, hc6, h⟩ := ob h
      refine r_callS1 (pc := 24) (av := [vL x1]) (S := [vR (some a4)]) dX11_part_24 (kX11_realOf hc6) mkX11_353 mwX11_realOf rfl ⟨Nat.le_of_ble_eq_true rfl, Nat.le_of_ble_eq_true rfl⟩ (Nat.le_of_ble_eq_true rfl) ⟨Nat.le_refl _, Nat.le_refl _⟩ (fun b => b) ?_
      obtain ⟨g7, h⟩ := gd h
      refine r_putD (pc := 27) dX11_part_27 fwX11_357 rfl g7 ?_
      refine r_iconst (pc := 30) dX11_part_30 kc_iconst_1 ?_
      cases h
      exact r_iret dX11_part_31
    · have h := ie h c
      refine r_bipush (pc := 16) dX11_part_16 kc_bipush_m2 ?_
      cases h
      exact r_iret dX11_part_18
abbrev WX11_probe (G : Gx) (l : Launch) (σ0 : Shp) (X1 : Stt) (rv : Option SV) : Stt → Nat → List (Nat × SV) → List SV → Prop := Wm G l yX11_probe cX11_probe 3 (some .int) (fun _ => True) (rmx 1 20 σ0 X1.1) σ0 (Qmx G σ0 X1 rv)
def fX11_probe (σ : Shp) (I : Nat → Nat → Int32) (R : Nat → Nat → Option Nat) (t : Nat) (x1 : Int32) (x2 : Int32) : Option ((Int32)) :=
  if (fX11_isProbe x1) = 0 then
    some (-2 : Int32)
  else
    if x2 < 0 then
      some (-2 : Int32)
    else
      if x2 ≤ (4 : Int32) then
        if kdx σ t = 12 then
        ((R t 5) : Option Nat).bind fun a2 =>
        if kdx σ a2 = 5 then
        ((R a2 1) : Option Nat).bind fun a4 =>
        if kdx σ a4 = 28 then
        if ¬ (x1 < 0 ∨ lnx σ a4 ≤ Int32.toNatClampNeg x1) then
        ((R a4 (Int32.toNatClampNeg x1)) : Option Nat).bind fun a7 =>
        if kdx σ a7 = 20 then
        if ¬ (x2 < 0 ∨ lnx σ a7 ≤ Int32.toNatClampNeg x2) then
        some (I a7 (Int32.toNatClampNeg x2))
        else none
        else none
        else none
        else none
        else none
        else none
      else
        some (-2 : Int32)
theorem kX11_probe {G : Gx} {l : Launch} {σ : Shp} {I : Nat → Nat → Int32} {J : Nat → Nat → Int64} {D : Nat → Nat → UInt64} {R : Nat → Nat → Option Nat} {t : Nat} {x1 : Int32} {x2 : Int32} {r9 : Int32} (h : fX11_probe σ I R t x1 x2 = some r9) : Con G l yX11_probe cX11_probe 3 (some .int) 1 20 [vR (some t), vI x1, vI x2] (σ, I, J, D, R) (σ, I, J, D, R) (some (vI r9)) := by
  unfold fX11_probe at h
  refine Con.mk (by decide +kernel) rfl (Nat.le_of_ble_eq_true rfl) ?_
  show WX11_probe G l σ (σ, I, J, D, R) (some (vI r9)) (σ, I, J, D, R) 0 _ []
  refine r_iload_n (pc := 0) dX11_probe_0 rfl 1 rfl ?_
  refine r_callS1 (pc := 1) (av := [vI x1]) (S := []) dX11_probe_1 (kX11_isProbe rfl) mkX11_342 mwX11_isProbe rfl ⟨Nat.le_of_ble_eq_true rfl, Nat.le_of_ble_eq_true rfl⟩ (Nat.le_of_ble_eq_true rfl) ⟨Nat.le_refl _, Nat.le_refl _⟩ (fun b => b) ?_
  refine r_if_eq (pc := 4) (tgt := 16) dX11_probe_4 rfl (fun c => ?_) (fun c => ?_)
  · have h := it h c
    refine r_bipush (pc := 16) dX11_probe_16 kc_bipush_m2 ?_
    cases h
    exact r_iret dX11_probe_18
  · have h := ie h c
    refine r_iload_n (pc := 7) dX11_probe_7 rfl 2 rfl ?_
    refine r_if_lt (pc := 8) (tgt := 16) dX11_probe_8 rfl (fun c => ?_) (fun c => ?_)
    · have h := it h c
      refine r_bipush (pc := 16) dX11_probe_16 kc_bipush_m2 ?_
      cases h
      exact r_iret dX11_probe_18
    · have h := ie h c
      refine r_iload_n (pc := 11) dX11_probe_11 rfl 2 rfl ?_
      refine r_iconst (pc := 12) dX11_probe_12 kc_iconst_4 ?_
      refine r_icmp_le (pc := 13) (tgt := 19) dX11_probe_13 rfl (fun c => ?_) (fun c => ?_)
      · have h := it h c
        refine r_aload_n (pc := 19) dX11_probe_19 rfl 0 rfl ?_
        obtain ⟨g1, h⟩ := gd h
        obtain ⟨a2, ha2, h⟩ := ob h
        refine r_getS (pc := 20) dX11_probe_20 fgX11_39 rfl g1 ha2 ?_
        obtain ⟨g3, h⟩ := gd h
        obtain ⟨a4, ha4, h⟩ := ob h
        refine r_getS (pc := 23) dX11_probe_23 fgX11_361 rfl g3 ha4 ?_
        refine r_iload_n (pc := 26) dX11_probe_26 rfl 1 rfl ?_
        obtain ⟨g5, h⟩ := gd h
        obtain ⟨g6, h⟩ := gd h
        refine r_aaload (pc := 27) dX11_probe_27 g5 (by decide) g6 ?_
        obtain ⟨a7, ha7, h⟩ := ob h
        refine r_ref0 ha7 ?_
        refine r_iload_n (pc := 28) dX11_probe_28 rfl 2 rfl ?_
        obtain ⟨g8, h⟩ := gd h
        obtain ⟨g9, h⟩ := gd h
        refine r_iaload (pc := 29) dX11_probe_29 g8 g9 ?_
        cases h
        exact r_iret dX11_probe_30
      · have h := ie h c
        refine r_bipush (pc := 16) dX11_probe_16 kc_bipush_m2 ?_
        cases h
        exact r_iret dX11_probe_18
