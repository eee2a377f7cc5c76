abbrev WX12_isStep (G : Gx) (l : Launch) (σ0 : Shp) (X1 : Stt) (rv : Option SV) : Stt → Nat → List (Nat × SV) → List SV → Prop := Wm G l yX12_isStep cX12_isStep 1 (some .boolean) (fun _ => True) (rmx 0 0 σ0 X1.1) σ0 (Qmx G σ0 X1 rv)
def fX12_isStep (σ : Shp) (I : Nat → Nat → Int32) (t : Nat)  : Option ((Nat → Nat → Int32) × (Int32)) :=
  if kdx σ t = 13 then
  if (I t 65) = (300 : Int32) then
    let I3 := u2 I t 59 (3 : Int32)
    some (I3, (0 : Int32))
  else
    let I2 := u2 I t 65 ((I t 65) + (1 : Int32))
    some (I2, (1 : Int32))
  else none
theorem kX12_isStep {G : Gx} {l : Launch} {σ : Shp} {I : Nat → Nat → Int32} {J : Nat → Nat → Int64} {D : Nat → Nat → UInt64} {R : Nat → Nat → Option Nat} {t : Nat}  {I9 : Nat → Nat → Int32} {r9 : Int32} (h : fX12_isStep σ I t = some (I9, r9)) : Con G l yX12_isStep cX12_isStep 1 (some .boolean) 0 0 [vR (some t)] (σ, I, J, D, R) (σ, I9, J, D, R) (some (vI r9)) := by
  unfold fX12_isStep at h
  refine Con.mk (by decide +kernel) rfl (Nat.le_of_ble_eq_true rfl) ?_
  show WX12_isStep G l σ (σ, I9, J, D, R) (some (vI r9)) (σ, I, J, D, R) 0 _ []
  refine r_aload_n (pc := 0) dX12_isStep_0 rfl 0 rfl ?_
  obtain ⟨g1, h⟩ := gd h
  refine r_getI (pc := 1) dX12_isStep_1 fgX12_546 rfl g1 ?_
  refine r_sipush (pc := 4) dX12_isStep_4 kc_sipush_300 ?_
  refine r_icmp_ne (pc := 7) (tgt := 17) dX12_isStep_7 rfl (fun c => ?_) (fun c => ?_)
  · have h := ie h c
    refine r_aload_n (pc := 17) dX12_isStep_17 rfl 0 rfl ?_
    refine r_dup (pc := 18) dX12_isStep_18 rfl ?_
    refine r_getI (pc := 19) dX12_isStep_19 fgX12_546 rfl g1 ?_
    refine r_iconst (pc := 22) dX12_isStep_22 kc_iconst_1 ?_
    refine r_iadd (pc := 23) dX12_isStep_23 ?_
    refine r_putI (pc := 24) dX12_isStep_24 fwX12_546 rfl g1 ?_
    refine r_iconst (pc := 27) dX12_isStep_27 kc_iconst_1 ?_
    cases h
    exact r_zret dX12_isStep_28 (Or.inr rfl)
  · have h := it h c
    refine r_aload_n (pc := 10) dX12_isStep_10 rfl 0 rfl ?_
    refine r_iconst (pc := 11) dX12_isStep_11 kc_iconst_3 ?_
    refine r_putI (pc := 12) dX12_isStep_12 fwX12_491 rfl g1 ?_
    refine r_iconst (pc := 15) dX12_isStep_15 kc_iconst_0 ?_
    cases h
    exact r_zret dX12_isStep_16 (Or.inl rfl)
abbrev WX12_call (G : Gx) (l : Launch) (σ0 : Shp) (X1 : Stt) (rv : Option SV) : Stt → Nat → List (Nat × SV) → List SV → Prop := Wm G l yX12_call cX12_call 2 none (fun _ => True) (rmx 2 45 σ0 X1.1) σ0 (Qmx G σ0 X1 rv)
def fX12_call (σ : Shp) (I : Nat → Nat → Int32) (R : Nat → Nat → Option Nat) (t : Nat)  : Option ((Nat → Nat → Int32)) :=
  if kdx σ t = 13 then
  (fX12_a σ I R t).bind fun r2 =>
  (fX12_wrong σ I R t r2).bind fun (I4, r5) =>
  if r5 = (-1 : Int32) then
    if (I4 t 66) = (6 : Int32) then
      (fX12_fails σ I4 t (8 : Int32) (99 : Int32)).bind fun I14 =>
      some I14
    else
      (fX12_a σ I4 R t).bind fun r7 =>
      (fX12_push σ I4 R t (10 : Int32)).bind fun I9 =>
      let I11 := u2 I9 t 66 ((I9 t 66) + (1 : Int32))
      let I12 := u2 I11 t 57 r7
      let I13 := u2 I12 t 58 (0 : Int32)
      some I13
  else
    (fX12_fails σ I4 t (8 : Int32) (98 : Int32)).bind fun I16 =>
    some I16
  else none
theorem kX12_call {G : Gx} {l : Launch} {σ : Shp} {I : Nat → Nat → Int32} {J : Nat → Nat → Int64} {D : Nat → Nat → UInt64} {R : Nat → Nat → Option Nat} {t : Nat}  {I9 : Nat → Nat → Int32} (h : fX12_call σ I R t = some I9) : Con G l yX12_call cX12_call 2 none 2 45 [vR (some t)] (σ, I, J, D, R) (σ, I9, J, D, R) none := by
  unfold fX12_call at h
  refine Con.mk (by decide +kernel) rfl (Nat.le_of_ble_eq_true rfl) ?_
  show WX12_call G l σ (σ, I9, J, D, R) none (σ, I, J, D, R) 0 _ []
  refine r_aload_n (pc := 0) dX12_call_0 rfl 0 rfl ?_
  refine r_aload_n (pc := 1) dX12_call_1 rfl 0 rfl ?_
  obtain ⟨g1, h⟩ := gd h
  obtain ⟨r2, hc3, h⟩ := ob h
  refine r_callV1 (pc := 2) (av := []) (S := [vR (some t)]) dX12_call_2 (kX12_a hc3) g1 rfl mkX12_518 mwX12_a rfl ⟨Nat.le_of_ble_eq_true rfl, Nat.le_of_ble_eq_true rfl⟩ (Nat.le_of_ble_eq_true rfl) ⟨Nat.le_refl _, Nat.le_refl _⟩ (fun b => b) ?_
  obtain ⟨⟨I4, r5⟩, hc6, h⟩ := ob h
  refine r_callV1 (pc := 5) (av := [vI r2]) (S := []) dX12_call_5 (kX12_wrong hc6) g1 rfl mkX12_481 mwX12_wrong rfl ⟨Nat.le_of_ble_eq_true rfl, Nat.le_of_ble_eq_true rfl⟩ (Nat.le_of_ble_eq_true rfl) ⟨Nat.le_refl _, Nat.le_refl _⟩ (fun b => b) ?_
  refine r_iconst (pc := 8) dX12_call_8 kc_iconst_m1 ?_
  refine r_icmp_eq (pc := 9) (tgt := 23) dX12_call_9 rfl (fun c => ?_) (fun c => ?_)
  · have h := it h c
    refine r_aload_n (pc := 23) dX12_call_23 rfl 0 rfl ?_
    refine r_getI (pc := 24) dX12_call_24 fgX12_567 rfl g1 ?_
    refine r_bipush (pc := 27) dX12_call_27 kc_bipush_6 ?_
    refine r_icmp_ne (pc := 29) (tgt := 43) dX12_call_29 rfl (fun c => ?_) (fun c => ?_)
    · have h := ie h c
      refine r_aload_n (pc := 43) dX12_call_43 rfl 0 rfl ?_
      obtain ⟨r7, hc8, h⟩ := ob h
      refine r_callV1 (pc := 44) (av := []) (S := []) dX12_call_44 (kX12_a hc8) g1 rfl mkX12_518 mwX12_a rfl ⟨Nat.le_of_ble_eq_true rfl, Nat.le_of_ble_eq_true rfl⟩ (Nat.le_of_ble_eq_true rfl) ⟨Nat.le_refl _, Nat.le_refl _⟩ (fun b => b) ?_
      refine r_istore_n (pc := 47) (L' := [(1, vI r7), (0, vR (some t))]) dX12_call_47 rfl (by decide) rfl ?_
      refine r_aload_n (pc := 48) dX12_call_48 rfl 1 rfl ?_
      refine r_bipush (pc := 49) dX12_call_49 kc_bipush_10 ?_
      obtain ⟨I9, hc10, h⟩ := ob h
      refine r_callV0 (pc := 51) (av := [vI (10 : Int32)]) (S := []) dX12_call_51 (kX12_push hc10) g1 rfl mkX12_531 mwX12_push rfl ⟨Nat.le_of_ble_eq_true rfl, Nat.le_of_ble_eq_true rfl⟩ (Nat.le_of_ble_eq_true rfl) ⟨Nat.le_refl _, Nat.le_refl _⟩ (fun b => b) ?_
      refine r_aload_n (pc := 54) dX12_call_54 rfl 1 rfl ?_
      refine r_dup (pc := 55) dX12_call_55 rfl ?_
      refine r_getI (pc := 56) dX12_call_56 fgX12_567 rfl g1 ?_
      refine r_iconst (pc := 59) dX12_call_59 kc_iconst_1 ?_
      refine r_iadd (pc := 60) dX12_call_60 ?_
      refine r_putI (pc := 61) dX12_call_61 fwX12_567 rfl g1 ?_
      refine r_aload_n (pc := 64) dX12_call_64 rfl 1 rfl ?_
      refine r_iload_n (pc := 65) dX12_call_65 rfl 0 rfl ?_
      refine r_putI (pc := 66) dX12_call_66 fwX12_515 rfl g1 ?_
      refine r_aload_n (pc := 69) dX12_call_69 rfl 1 rfl ?_
      refine r_iconst (pc := 70) dX12_call_70 kc_iconst_0 ?_
      refine r_putI (pc := 71) dX12_call_71 fwX12_500 rfl g1 ?_
      cases h
      exact r_vret dX12_call_74
    · have h := it h c
      refine r_aload_n (pc := 32) dX12_call_32 rfl 0 rfl ?_
      refine r_bipush (pc := 33) dX12_call_33 kc_bipush_8 ?_
      refine r_bipush (pc := 35) dX12_call_35 kc_bipush_99 ?_
      obtain ⟨I14, hc15, h⟩ := ob h
      refine r_callV0 (pc := 37) (av := [vI (8 : Int32), vI (99 : Int32)]) (S := []) dX12_call_37 (kX12_fails hc15) g1 rfl mkX12_521 mwX12_fails rfl ⟨Nat.le_of_ble_eq_true rfl, Nat.le_of_ble_eq_true rfl⟩ (Nat.le_of_ble_eq_true rfl) ⟨Nat.le_refl _, Nat.le_refl _⟩ (fun b => b) ?_
      refine r_goto (pc := 40) (tgt := 74) dX12_call_40 rfl ?_
      cases h
      exact r_vret dX12_call_74
  · have h := ie h c
    refine r_aload_n (pc := 12) dX12_call_12 rfl 0 rfl ?_
    refine r_bipush (pc := 13) dX12_call_13 kc_bipush_8 ?_
    refine r_bipush (pc := 15) dX12_call_15 kc_bipush_98 ?_
    obtain ⟨I16, hc17, h⟩ := ob h
    refine r_callV0 (pc := 17) (av := [vI (8 : Int32), vI (98 : Int32)]) (S := []) dX12_call_17 (kX12_fails hc17) g1 rfl mkX12_521 mwX12_fails rfl ⟨Nat.le_of_ble_eq_true rfl, Nat.le_of_ble_eq_true rfl⟩ (Nat.le_of_ble_eq_true rfl) ⟨Nat.le_refl _, Nat.le_refl _⟩ (fun b => b) ?_
    refine r_goto (pc := 20) (tgt := 74) dX12_call_20 rfl ?_
    cases h
    exact r_vret dX12_call_74
abbrev WX12_begin (G : Gx) (l : Launch) (σ0 : Shp) (X1 : Stt) (rv : Option SV) : Stt → Nat → List (Nat × SV) → List SV → Prop := Wm G l yX12_begin cX12_begin 3 none (fun _ => True) (rmx 7 162 σ0 X1.1) σ0 (Qmx G σ0 X1 rv)
def fX12_begin (σ : Shp) (I : Nat → Nat → Int32) (J : Nat → Nat → Int64) (R : Nat → Nat → Option Nat) (t : Nat) (x1 : Int32) : Option ((Nat → Nat → Int32) × (Nat → Nat → Int64)) :=
  if kdx σ t = 13 then
  (fX12_isStep σ I t).bind fun (I2, r3) =>
  if r3 = 0 then
    some (I2, J)
  else
    if (fX12_hasBody x1) = 0 then
      (fX12_areNumbers σ I2 R t x1).bind fun r5 =>
      if r5 = 0 then
        (fX12_fails σ I2 t (2 : Int32) (0 : Int32)).bind fun I24 =>
        some (I24, J)
      else
        if x1 = (7 : Int32) then
          (fX12_a σ I2 R t).bind fun r20 =>
          (fX12_fails σ I2 t (8 : Int32) r20).bind fun I22 =>
          some (I22, J)
        else
          if x1 = (8 : Int32) then
            let I16 := u2 I2 t 59 (2 : Int32)
            (fX12_a σ I16 R t).bind fun r17 =>
            let I19 := u2 I16 t 64 r17
            some (I19, J)
          else
            if x1 = (10 : Int32) then
              (fX12_call σ I2 R t).bind fun I14 =>
              some (I14, J)
            else
              (fX12_plain σ I2 J R t x1).bind fun (I7, J8, r9) =>
              if r9 = 0 then
                let I11 := u2 I7 t 58 ((I7 t 58) + (1 : Int32))
                some (I11, J8)
              else
                (fX12_fails σ I7 t r9 (0 : Int32)).bind fun I12 =>
                some (I12, J8)
    else
      (fX12_enter σ I2 J R t x1).bind fun (I26, J27) =>
      some (I26, J27)
  else none
theorem kX12_begin {G : Gx} {l : Launch} {σ : Shp} {I : Nat → Nat → Int32} {J : Nat → Nat → Int64} {D : Nat → Nat → UInt64} {R : Nat → Nat → Option Nat} {t : Nat} {x1 : Int32} {I9 : Nat → Nat → Int32} {J9 : Nat → Nat → Int64} (h : fX12_begin σ I J R t x1 = some (I9, J9)) : Con G l yX12_begin cX12_begin 3 none 7 162 [vR (some t), vI x1] (σ, I, J, D, R) (σ, I9, J9, D, R) none := by
  unfold fX12_begin at h
  refine Con.mk (by decide +kernel) rfl (Nat.le_of_ble_eq_true rfl) ?_
  show WX12_begin G l σ (σ, I9, J9, D, R) none (σ, I, J, D, R) 0 _ []
  refine r_aload_n (pc := 0) dX12_begin_0 rfl 0 rfl ?_
  obtain ⟨g1, h⟩ := gd h
  obtain ⟨⟨I2, r3⟩, hc4, h⟩ := ob h
  refine r_callV1 (pc := 1) (av := []) (S := []) dX12_begin_1 (kX12_isStep hc4) g1 rfl mkX12_549 mwX12_isStep rfl ⟨Nat.le_of_ble_eq_true rfl, Nat.le_of_ble_eq_true rfl⟩ (Nat.le_of_ble_eq_true rfl) ⟨Nat.le_refl _, Nat.le_refl _⟩ (fun b => b) ?_
  refine r_ifne (pc := 4) (tgt := 8) dX12_begin_4 rfl (fun c => ?_) (fun c => ?_)
  · have h := ie h c
    refine r_iload_n (pc := 8) dX12_begin_8 rfl 1 rfl ?_
    refine r_callS1 (pc := 9) (av := [vI x1]) (S := []) dX12_begin_9 (kX12_hasBody rfl) mkX12_478 mwX12_hasBody rfl ⟨Nat.le_of_ble_eq_true rfl, Nat.le_of_ble_eq_true rfl⟩ (Nat.le_of_ble_eq_true rfl) ⟨Nat.le_refl _, Nat.le_refl _⟩ (fun b => b) ?_
    refine r_if_eq (pc := 12) (tgt := 21) dX12_begin_12 rfl (fun c => ?_) (fun c => ?_)
    · have h := it h c
      refine r_aload_n (pc := 21) dX12_begin_21 rfl 0 rfl ?_
      refine r_iload_n (pc := 22) dX12_begin_22 rfl 1 rfl ?_
      obtain ⟨r5, hc6, h⟩ := ob h
      refine r_callV1 (pc := 23) (av := [vI x1]) (S := []) dX12_begin_23 (kX12_areNumbers hc6) g1 rfl mkX12_555 mwX12_areNumbers rfl ⟨Nat.le_of_ble_eq_true rfl, Nat.le_of_ble_eq_true rfl⟩ (Nat.le_of_ble_eq_true rfl) ⟨Nat.le_refl _, Nat.le_refl _⟩ (fun b => b) ?_
      refine r_ifne (pc := 26) (tgt := 36) dX12_begin_26 rfl (fun c => ?_) (fun c => ?_)
      · have h := ie h c
        refine r_iload_n (pc := 36) dX12_begin_36 rfl 1 rfl ?_
        refine r_bipush (pc := 37) dX12_begin_37 kc_bipush_7 ?_
        refine r_icmp_ne (pc := 39) (tgt := 55) dX12_begin_39 rfl (fun c => ?_) (fun c => ?_)
        · have h := ie h c
          refine r_iload_n (pc := 55) dX12_begin_55 rfl 1 rfl ?_
          refine r_bipush (pc := 56) dX12_begin_56 kc_bipush_8 ?_
          refine r_icmp_ne (pc := 58) (tgt := 77) dX12_begin_58 rfl (fun c => ?_) (fun c => ?_)
          · have h := ie h c
            refine r_iload_n (pc := 77) dX12_begin_77 rfl 1 rfl ?_
            refine r_bipush (pc := 78) dX12_begin_78 kc_bipush_10 ?_
            refine r_icmp_ne (pc := 80) (tgt := 90) dX12_begin_80 rfl (fun c => ?_) (fun c => ?_)
            · have h := ie h c
              refine r_aload_n (pc := 90) dX12_begin_90 rfl 0 rfl ?_
              refine r_iload_n (pc := 91) dX12_begin_91 rfl 1 rfl ?_
              obtain ⟨⟨I7, J8, r9⟩, hc10, h⟩ := ob h
              refine r_callV1 (pc := 92) (av := [vI x1]) (S := []) dX12_begin_92 (kX12_plain hc10) g1 rfl mkX12_564 mwX12_plain rfl ⟨Nat.le_of_ble_eq_true rfl, Nat.le_of_ble_eq_true rfl⟩ (Nat.le_of_ble_eq_true rfl) ⟨Nat.le_refl _, Nat.le_refl _⟩ (fun b => b) ?_
              refine r_istore_n (pc := 95) (L' := [(2, vI r9), (0, vR (some t)), (1, vI x1)]) dX12_begin_95 rfl (by decide) rfl ?_
              refine r_iload_n (pc := 96) dX12_begin_96 rfl 0 rfl ?_
              refine r_if_eq (pc := 97) (tgt := 109) dX12_begin_97 rfl (fun c => ?_) (fun c => ?_)
              · have h := it h c
                refine r_aload_n (pc := 109) dX12_begin_109 rfl 1 rfl ?_
                refine r_dup (pc := 110) dX12_begin_110 rfl ?_
                refine r_getI (pc := 111) dX12_begin_111 fgX12_500 rfl g1 ?_
                refine r_iconst (pc := 114) dX12_begin_114 kc_iconst_1 ?_
                refine r_iadd (pc := 115) dX12_begin_115 ?_
                refine r_putI (pc := 116) dX12_begin_116 fwX12_500 rfl g1 ?_
                cases h
                exact r_vret dX12_begin_119
              · have h := ie h c
                refine r_aload_n (pc := 100) dX12_begin_100 rfl 1 rfl ?_
                refine r_iload_n (pc := 101) dX12_begin_101 rfl 0 rfl ?_
                refine r_iconst (pc := 102) dX12_begin_102 kc_iconst_0 ?_
                obtain ⟨I12, hc13, h⟩ := ob h
                refine r_callV0 (pc := 103) (av := [vI r9, vI (0 : Int32)]) (S := []) dX12_begin_103 (kX12_fails hc13) g1 rfl mkX12_521 mwX12_fails rfl ⟨Nat.le_of_ble_eq_true rfl, Nat.le_of_ble_eq_true rfl⟩ (Nat.le_of_ble_eq_true rfl) ⟨Nat.le_refl _, Nat.le_refl _⟩ (fun b => b) ?_
                refine r_goto (pc := 106) (tgt := 119) dX12_begin_106 rfl ?_
                cases h
                exact r_vret dX12_begin_119
            · have h := it h c
              refine r_aload_n (pc := 83) dX12_begin_83 rfl 0 rfl ?_
              obtain ⟨I14, hc15, h⟩ := ob h
              refine r_callV0 (pc := 84) (av := []) (S := []) dX12_begin_84 (kX12_call hc15) g1 rfl mkX12_561 mwX12_call rfl ⟨Nat.le_of_ble_eq_true rfl, Nat.le_of_ble_eq_true rfl⟩ (Nat.le_of_ble_eq_true rfl) ⟨Nat.le_refl _, Nat.le_refl _⟩ (fun b => b) ?_
              refine r_goto (pc := 87) (tgt := 119) dX12_begin_87 rfl ?_
              cases h
              exact r_vret dX12_begin_119
          · have h := it h c
            refine r_aload_n (pc := 61) dX12_begin_61 rfl 0 rfl ?_
            refine r_iconst (pc := 62) dX12_begin_62 kc_iconst_2 ?_
            refine r_putI (pc := 63) dX12_begin_63 fwX12_491 rfl g1 ?_
            refine r_aload_n (pc := 66) dX12_begin_66 rfl 0 rfl ?_
            refine r_aload_n (pc := 67) dX12_begin_67 rfl 0 rfl ?_
            obtain ⟨r17, hc18, h⟩ := ob h
            refine r_callV1 (pc := 68) (av := []) (S := [vR (some t)]) dX12_begin_68 (kX12_a hc18) g1 rfl mkX12_518 mwX12_a rfl ⟨Nat.le_of_ble_eq_true rfl, Nat.le_of_ble_eq_true rfl⟩ (Nat.le_of_ble_eq_true rfl) ⟨Nat.le_refl _, Nat.le_refl _⟩ (fun b => b) ?_
            refine r_putI (pc := 71) dX12_begin_71 fwX12_558 rfl g1 ?_
            refine r_goto (pc := 74) (tgt := 119) dX12_begin_74 rfl ?_
            cases h
            exact r_vret dX12_begin_119
        · have h := it h c
          refine r_aload_n (pc := 42) dX12_begin_42 rfl 0 rfl ?_
          refine r_bipush (pc := 43) dX12_begin_43 kc_bipush_8 ?_
          refine r_aload_n (pc := 45) dX12_begin_45 rfl 0 rfl ?_
          obtain ⟨r20, hc21, h⟩ := ob h
          refine r_callV1 (pc := 46) (av := []) (S := [vI (8 : Int32), vR (some t)]) dX12_begin_46 (kX12_a hc21) g1 rfl mkX12_518 mwX12_a rfl ⟨Nat.le_of_ble_eq_true rfl, Nat.le_of_ble_eq_true rfl⟩ (Nat.le_of_ble_eq_true rfl) ⟨Nat.le_refl _, Nat.le_refl _⟩ (fun b => b) ?_
          obtain ⟨I22, hc23, h⟩ := ob h
          refine r_callV0 (pc := 49) (av := [vI (8 : Int32), vI r20]) (S := []) dX12_begin_49 (kX12_fails hc23) g1 rfl mkX12_521 mwX12_fails rfl ⟨Nat.le_of_ble_eq_true rfl, Nat.le_of_ble_eq_true rfl⟩ (Nat.le_of_ble_eq_true rfl) ⟨Nat.le_refl _, Nat.le_refl _⟩ (fun b => b) ?_
          refine r_goto (pc := 52) (tgt := 119) dX12_begin_52 rfl ?_
          cases h
          exact r_vret dX12_begin_119
      · have h := it h c
        refine r_aload_n (pc := 29) dX12_begin_29 rfl 0 rfl ?_
        refine r_iconst (pc := 30) dX12_begin_30 kc_iconst_2 ?_
        refine r_iconst (pc := 31) dX12_begin_31 kc_iconst_0 ?_
        obtain ⟨I24, hc25, h⟩ := ob h
        refine r_callV0 (pc := 32) (av := [vI (2 : Int32), vI (0 : Int32)]) (S := []) dX12_begin_32 (kX12_fails hc25) g1 rfl mkX12_521 mwX12_fails rfl ⟨Nat.le_of_ble_eq_true rfl, Nat.le_of_ble_eq_true rfl⟩ (Nat.le_of_ble_eq_true rfl) ⟨Nat.le_refl _, Nat.le_refl _⟩ (fun b => b) ?_
        cases h
        exact r_vret dX12_begin_35
    · have h := ie h c
      refine r_aload_n (pc := 15) dX12_begin_15 rfl 0 rfl ?_
      refine r_iload_n (pc := 16) dX12_begin_16 rfl 1 rfl ?_
      obtain ⟨⟨I26, J27⟩, hc28, h⟩ := ob h
      refine r_callV0 (pc := 17) (av := [vI x1]) (S := []) dX12_begin_17 (kX12_enter hc28) g1 rfl mkX12_552 mwX12_enter rfl ⟨Nat.le_of_ble_eq_true rfl, Nat.le_of_ble_eq_true rfl⟩ (Nat.le_of_ble_eq_true rfl) ⟨Nat.le_refl _, Nat.le_refl _⟩ (fun b => b) ?_
      cases h
      exact r_vret dX12_begin_20
  · have h := it h c
    cases h
    exact r_vret dX12_begin_7
abbrev WX12_giveBack (G : Gx) (l : Launch) (σ0 : Shp) (X1 : Stt) (rv : Option SV) : Stt → Nat → List (Nat × SV) → List SV → Prop := Wm G l yX12_giveBack cX12_giveBack 3 none (fun _ => True) (rmx 2 46 σ0 X1.1) σ0 (Qmx G σ0 X1 rv)
def fX12_giveBack (σ : Shp) (I : Nat → Nat → Int32) (J : Nat → Nat → Int64) (R : Nat → Nat → Option Nat) (t : Nat) (x1 : Int32) : Option ((Nat → Nat → Int32) × (Nat → Nat → Int64)) :=
  if kdx σ t = 13 then
  ((R t 44) : Option Nat).bind fun a2 =>
  if kdx σ a2 = 20 then
  if ¬ (x1 < 0 ∨ lnx σ a2 ≤ Int32.toNatClampNeg x1) then
  ((R t 45) : Option Nat).bind fun a5 =>
  if kdx σ a5 = 20 then
  if ¬ (x1 < 0 ∨ lnx σ a5 ≤ Int32.toNatClampNeg x1) then
  let v8 := (((40 : Int32) * (I a2 (Int32.toNatClampNeg x1))) + (I a5 (Int32.toNatClampNeg x1)))
  ((R t 43) : Option Nat).bind fun a9 =>
  if kdx σ a9 = 20 then
  if ¬ (x1 < 0 ∨ lnx σ a9 ≤ Int32.toNatClampNeg x1) then
  if (I a9 (Int32.toNatClampNeg x1)) = (11 : Int32) then
    ((R t 40) : Option Nat).bind fun a34 =>
    ((R t 35) : Option Nat).bind fun a35 =>
    if kdx σ a35 = 20 then
    if ¬ (v8 < 0 ∨ lnx σ a35 ≤ Int32.toNatClampNeg v8) then
    if kdx σ a34 = 20 then
    if ¬ ((I a35 (Int32.toNatClampNeg v8)) < 0 ∨ lnx σ a34 ≤ Int32.toNatClampNeg (I a35 (Int32.toNatClampNeg v8))) then
    let I40 := u2 I a34 (Int32.toNatClampNeg (I a35 (Int32.toNatClampNeg v8))) ((I a34 (Int32.toNatClampNeg (I a35 (Int32.toNatClampNeg v8)))) - (1 : Int32))
    some (I40, J)
    else none
    else none
    else none
    else none
  else
    if (I a9 (Int32.toNatClampNeg x1)) = (12 : Int32) then
      ((R t 35) : Option Nat).bind fun a22 =>
      if kdx σ a22 = 20 then
      if ¬ (v8 < 0 ∨ lnx σ a22 ≤ Int32.toNatClampNeg v8) then
      ((R t 38) : Option Nat).bind fun a25 =>
      if kdx σ a25 = 21 then
      if ¬ ((I a22 (Int32.toNatClampNeg v8)) < 0 ∨ lnx σ a25 ≤ Int32.toNatClampNeg (I a22 (Int32.toNatClampNeg v8))) then
      ((R t 36) : Option Nat).bind fun a28 =>
      if kdx σ a28 = 20 then
      if ¬ (v8 < 0 ∨ lnx σ a28 ≤ Int32.toNatClampNeg v8) then
      (fX12_changeStock σ I J R t (I a22 (Int32.toNatClampNeg v8)) ((J a25 (Int32.toNatClampNeg (I a22 (Int32.toNatClampNeg v8)))) + (Int32.toInt64 (I a28 (Int32.toNatClampNeg v8))))).bind fun (I31, J32) =>
      some (I31, J32)
      else none
      else none
      else none
      else none
      else none
      else none
    else
      if (I a9 (Int32.toNatClampNeg x1)) = (13 : Int32) then
        ((R t 39) : Option Nat).bind fun a12 =>
        ((R t 35) : Option Nat).bind fun a13 =>
        if kdx σ a13 = 20 then
        if ¬ (v8 < 0 ∨ lnx σ a13 ≤ Int32.toNatClampNeg v8) then
        ((R t 37) : Option Nat).bind fun a16 =>
        if kdx σ a16 = 20 then
        if ¬ (v8 < 0 ∨ lnx σ a16 ≤ Int32.toNatClampNeg v8) then
        if kdx σ a12 = 20 then
        if ¬ ((I a13 (Int32.toNatClampNeg v8)) < 0 ∨ lnx σ a12 ≤ Int32.toNatClampNeg (I a13 (Int32.toNatClampNeg v8))) then
        let I21 := u2 I a12 (Int32.toNatClampNeg (I a13 (Int32.toNatClampNeg v8))) (I a16 (Int32.toNatClampNeg v8))
        some (I21, J)
        else none
        else none
        else none
        else none
        else none
        else none
      else
        some (I, J)
  else none
  else none
  else none
  else none
  else none
  else none
  else none
theorem kX12_giveBack {G : Gx} {l : Launch} {σ : Shp} {I : Nat → Nat → Int32} {J : Nat → Nat → Int64} {D : Nat → Nat → UInt64} {R : Nat → Nat → Option Nat} {t : Nat} {x1 : Int32} {I9 : Nat → Nat → Int32} {J9 : Nat → Nat → Int64} (h : fX12_giveBack σ I J R t x1 = some (I9, J9)) : Con G l yX12_giveBack cX12_giveBack 3 none 2 46 [vR (some t), vI x1] (σ, I, J, D, R) (σ, I9, J9, D, R) none := by
  unfold fX12_giveBack at h
  refine Con.mk (by decide +kernel) rfl (Nat.le_of_ble_eq_true rfl) ?_
  show WX12_giveBack G l σ (σ, I9, J9, D, R) none (σ, I, J, D, R) 0 _ []
  refine r_bipush (pc := 0) dX12_giveBack_0 kc_bipush_40 ?_
  refine r_aload_n (pc := 2) dX12_giveBack_2 rfl 0 rfl ?_
  obtain ⟨g1, h⟩ := gd h
  obtain ⟨a2, ha2, h⟩ := ob h
  refine r_getS (pc := 3) dX12_giveBack_3 fgX12_104 rfl g1 ha2 ?_
  refine r_iload_n (pc := 6) dX12_giveBack_6 rfl 1 rfl ?_
  obtain ⟨g3, h⟩ := gd h
  obtain ⟨g4, h⟩ := gd h
  refine r_iaload (pc := 7) dX12_giveBack_7 g3 g4 ?_
  refine r_imul (pc := 8) dX12_giveBack_8 ?_
  refine r_aload_n (pc := 9) dX12_giveBack_9 rfl 0 rfl ?_
  obtain ⟨a5, ha5, h⟩ := ob h
  refine r_getS (pc := 10) dX12_giveBack_10 fgX12_107 rfl g1 ha5 ?_
  refine r_iload_n (pc := 13) dX12_giveBack_13 rfl 1 rfl ?_
  obtain ⟨g6, h⟩ := gd h
  obtain ⟨g7, h⟩ := gd h
  refine r_iaload (pc := 14) dX12_giveBack_14 g6 g7 ?_
  refine r_iadd (pc := 15) dX12_giveBack_15 ?_
  refine r_istore_n (pc := 16) (L' := [(2, vI (((40 : Int32) * (I a2 (Int32.toNatClampNeg x1))) + (I a5 (Int32.toNatClampNeg x1)))), (0, vR (some t)), (1, vI x1)]) dX12_giveBack_16 rfl (by decide) rfl ?_
  refine r_aload_n (pc := 17) dX12_giveBack_17 rfl 1 rfl ?_
  obtain ⟨a9, ha9, h⟩ := ob h
  refine r_getS (pc := 18) dX12_giveBack_18 fgX12_101 rfl g1 ha9 ?_
  refine r_iload_n (pc := 21) dX12_giveBack_21 rfl 2 rfl ?_
  obtain ⟨g10, h⟩ := gd h
  obtain ⟨g11, h⟩ := gd h
  refine r_iaload (pc := 22) dX12_giveBack_22 g10 g11 ?_
  refine r_bipush (pc := 23) dX12_giveBack_23 kc_bipush_11 ?_
  refine r_icmp_ne (pc := 25) (tgt := 46) dX12_giveBack_25 rfl (fun c => ?_) (fun c => ?_)
  · have h := ie h c
    refine r_aload_n (pc := 46) dX12_giveBack_46 rfl 1 rfl ?_
    refine r_getS (pc := 47) dX12_giveBack_47 fgX12_101 rfl g1 ha9 ?_
    refine r_iload_n (pc := 50) dX12_giveBack_50 rfl 2 rfl ?_
    refine r_iaload (pc := 51) dX12_giveBack_51 g10 g11 ?_
    refine r_bipush (pc := 52) dX12_giveBack_52 kc_bipush_12 ?_
    refine r_icmp_ne (pc := 54) (tgt := 89) dX12_giveBack_54 rfl (fun c => ?_) (fun c => ?_)
    · have h := ie h c
      refine r_aload_n (pc := 89) dX12_giveBack_89 rfl 1 rfl ?_
      refine r_getS (pc := 90) dX12_giveBack_90 fgX12_101 rfl g1 ha9 ?_
      refine r_iload_n (pc := 93) dX12_giveBack_93 rfl 2 rfl ?_
      refine r_iaload (pc := 94) dX12_giveBack_94 g10 g11 ?_
      refine r_bipush (pc := 95) dX12_giveBack_95 kc_bipush_13 ?_
      refine r_icmp_ne (pc := 97) (tgt := 117) dX12_giveBack_97 rfl (fun c => ?_) (fun c => ?_)
      · have h := ie h c
        cases h
        exact r_vret dX12_giveBack_117
      · have h := it h c
        refine r_aload_n (pc := 100) dX12_giveBack_100 rfl 1 rfl ?_
        obtain ⟨a12, ha12, h⟩ := ob h
        refine r_getS (pc := 101) dX12_giveBack_101 fgX12_92 rfl g1 ha12 ?_
        refine r_aload_n (pc := 104) dX12_giveBack_104 rfl 1 rfl ?_
        obtain ⟨a13, ha13, h⟩ := ob h
        refine r_getS (pc := 105) dX12_giveBack_105 fgX12_80 rfl g1 ha13 ?_
        refine r_iload_n (pc := 108) dX12_giveBack_108 rfl 0 rfl ?_
        obtain ⟨g14, h⟩ := gd h
        obtain ⟨g15, h⟩ := gd h
        refine r_iaload (pc := 109) dX12_giveBack_109 g14 g15 ?_
        refine r_aload_n (pc := 110) dX12_giveBack_110 rfl 1 rfl ?_
        obtain ⟨a16, ha16, h⟩ := ob h
        refine r_getS (pc := 111) dX12_giveBack_111 fgX12_86 rfl g1 ha16 ?_
        refine r_iload_n (pc := 114) dX12_giveBack_114 rfl 0 rfl ?_
        obtain ⟨g17, h⟩ := gd h
        obtain ⟨g18, h⟩ := gd h
        refine r_iaload (pc := 115) dX12_giveBack_115 g17 g18 ?_
        obtain ⟨g19, h⟩ := gd h
        obtain ⟨g20, h⟩ := gd h
        refine r_iastore (pc := 116) dX12_giveBack_116 g19 g20 ?_
        cases h
        exact r_vret dX12_giveBack_117
    · have h := it h c
      refine r_aload_n (pc := 57) dX12_giveBack_57 rfl 1 rfl ?_
      refine r_aload_n (pc := 58) dX12_giveBack_58 rfl 1 rfl ?_
      obtain ⟨a22, ha22, h⟩ := ob h
      refine r_getS (pc := 59) dX12_giveBack_59 fgX12_80 rfl g1 ha22 ?_
      refine r_iload_n (pc := 62) dX12_giveBack_62 rfl 0 rfl ?_
      obtain ⟨g23, h⟩ := gd h
      obtain ⟨g24, h⟩ := gd h
      refine r_iaload (pc := 63) dX12_giveBack_63 g23 g24 ?_
      refine r_aload_n (pc := 64) dX12_giveBack_64 rfl 1 rfl ?_
      obtain ⟨a25, ha25, h⟩ := ob h
      refine r_getS (pc := 65) dX12_giveBack_65 fgX12_89 rfl g1 ha25 ?_
      refine r_aload_n (pc := 68) dX12_giveBack_68 rfl 1 rfl ?_
      refine r_getS (pc := 69) dX12_giveBack_69 fgX12_80 rfl g1 ha22 ?_
      refine r_iload_n (pc := 72) dX12_giveBack_72 rfl 0 rfl ?_
      refine r_iaload (pc := 73) dX12_giveBack_73 g23 g24 ?_
      obtain ⟨g26, h⟩ := gd h
      obtain ⟨g27, h⟩ := gd h
      refine r_laload (pc := 74) dX12_giveBack_74 g26 g27 ?_
      refine r_aload_n (pc := 75) dX12_giveBack_75 rfl 1 rfl ?_
      obtain ⟨a28, ha28, h⟩ := ob h
      refine r_getS (pc := 76) dX12_giveBack_76 fgX12_83 rfl g1 ha28 ?_
      refine r_iload_n (pc := 79) dX12_giveBack_79 rfl 0 rfl ?_
      obtain ⟨g29, h⟩ := gd h
      obtain ⟨g30, h⟩ := gd h
      refine r_iaload (pc := 80) dX12_giveBack_80 g29 g30 ?_
      refine r_i2l (pc := 81) dX12_giveBack_81 ?_
      refine r_ladd (pc := 82) dX12_giveBack_82 ?_
      obtain ⟨⟨I31, J32⟩, hc33, h⟩ := ob h
      refine r_callV0 (pc := 83) (av := [vI (I a22 (Int32.toNatClampNeg (((40 : Int32) * (I a2 (Int32.toNatClampNeg x1))) + (I a5 (Int32.toNatClampNeg x1))))), vL ((J a25 (Int32.toNatClampNeg (I a22 (Int32.toNatClampNeg (((40 : Int32) * (I a2 (Int32.toNatClampNeg x1))) + (I a5 (Int32.toNatClampNeg x1))))))) + (Int32.toInt64 (I a28 (Int32.toNatClampNeg (((40 : Int32) * (I a2 (Int32.toNatClampNeg x1))) + (I a5 (Int32.toNatClampNeg x1)))))))]) (S := []) dX12_giveBack_83 (kX12_changeStock hc33) g1 rfl mkX12_537 mwX12_changeStock rfl ⟨Nat.le_of_ble_eq_true rfl, Nat.le_of_ble_eq_true rfl⟩ (Nat.le_of_ble_eq_true rfl) ⟨Nat.le_refl _, Nat.le_refl _⟩ (fun b => b) ?_
      refine r_goto (pc := 86) (tgt := 117) dX12_giveBack_86 rfl ?_
      cases h
      exact r_vret dX12_giveBack_117
  · have h := it h c
    refine r_aload_n (pc := 28) dX12_giveBack_28 rfl 1 rfl ?_
    obtain ⟨a34, ha34, h⟩ := ob h
    refine r_getS (pc := 29) dX12_giveBack_29 fgX12_95 rfl g1 ha34 ?_
    refine r_aload_n (pc := 32) dX12_giveBack_32 rfl 1 rfl ?_
    obtain ⟨a35, ha35, h⟩ := ob h
    refine r_getS (pc := 33) dX12_giveBack_33 fgX12_80 rfl g1 ha35 ?_
    refine r_iload_n (pc := 36) dX12_giveBack_36 rfl 0 rfl ?_
    obtain ⟨g36, h⟩ := gd h
    obtain ⟨g37, h⟩ := gd h
    refine r_iaload (pc := 37) dX12_giveBack_37 g36 g37 ?_
    refine r_dup2 (pc := 38) dX12_giveBack_38 rfl rfl ?_
    obtain ⟨g38, h⟩ := gd h
    obtain ⟨g39, h⟩ := gd h
    refine r_iaload (pc := 39) dX12_giveBack_39 g38 g39 ?_
    refine r_iconst (pc := 40) dX12_giveBack_40 kc_iconst_1 ?_
    refine r_isub (pc := 41) dX12_giveBack_41 ?_
    refine r_iastore (pc := 42) dX12_giveBack_42 g38 g39 ?_
    refine r_goto (pc := 43) (tgt := 117) dX12_giveBack_43 rfl ?_
    cases h
    exact r_vret dX12_giveBack_117
abbrev WX12_behind (G : Gx) (l : Launch) (σ0 : Shp) (X1 : Stt) (rv : Option SV) : Stt → Nat → List (Nat × SV) → List SV → Prop := Wm G l yX12_behind cX12_behind 5 none (fun _ => True) (rmx 2 45 σ0 X1.1) σ0 (Qmx G σ0 X1 rv)
def fX12_behind_b40  (σ : Shp) (R : Nat → Nat → Option Nat) (t : Nat) (I : Nat → Nat → Int32) (x1 : Int32) (x3 : Int32) : Option ((Nat → Nat → Int32)) :=
  if kdx σ t = 13 then
  let I6 := u2 I t 57 x1
  let I7 := u2 I6 t 58 x3
  ((R t 33) : Option Nat).bind fun a8 =>
  if kdx σ a8 = 20 then
  if ¬ (x1 < 0 ∨ lnx σ a8 ≤ Int32.toNatClampNeg x1) then
  if (I7 a8 (Int32.toNatClampNeg x1)) ≤ x3 then
    some I7
  else
    ((R t 34) : Option Nat).bind fun a11 =>
    if kdx σ a11 = 20 then
    if ¬ ((((40 : Int32) * x1) + x3) < 0 ∨ lnx σ a11 ≤ Int32.toNatClampNeg (((40 : Int32) * x1) + x3)) then
    if (I7 a11 (Int32.toNatClampNeg (((40 : Int32) * x1) + x3))) = (18 : Int32) then
      (fX12_push σ I7 R t (18 : Int32)).bind fun I14 =>
      let v16 := ((I14 t 42) - (1 : Int32))
      ((R t 48) : Option Nat).bind fun a17 =>
      if kdx σ a17 = 20 then
      if ¬ (v16 < 0 ∨ lnx σ a17 ≤ Int32.toNatClampNeg v16) then
      let I20 := u2 I14 a17 (Int32.toNatClampNeg v16) (I14 t 59)
      ((R t 49) : Option Nat).bind fun a21 =>
      if kdx σ a21 = 20 then
      if ¬ (v16 < 0 ∨ lnx σ a21 ≤ Int32.toNatClampNeg v16) then
      let I24 := u2 I20 a21 (Int32.toNatClampNeg v16) (I20 t 60)
      ((R t 50) : Option Nat).bind fun a25 =>
      if kdx σ a25 = 20 then
      if ¬ (v16 < 0 ∨ lnx σ a25 ≤ Int32.toNatClampNeg v16) then
      let I28 := u2 I24 a25 (Int32.toNatClampNeg v16) (I24 t 61)
      ((R t 51) : Option Nat).bind fun a29 =>
      if kdx σ a29 = 20 then
      if ¬ (v16 < 0 ∨ lnx σ a29 ≤ Int32.toNatClampNeg v16) then
      let I32 := u2 I28 a29 (Int32.toNatClampNeg v16) (I28 t 62)
      ((R t 52) : Option Nat).bind fun a33 =>
      if kdx σ a33 = 20 then
      if ¬ (v16 < 0 ∨ lnx σ a33 ≤ Int32.toNatClampNeg v16) then
      let I36 := u2 I32 a33 (Int32.toNatClampNeg v16) (I32 t 63)
      ((R t 53) : Option Nat).bind fun a37 =>
      if kdx σ a37 = 20 then
      if ¬ (v16 < 0 ∨ lnx σ a37 ≤ Int32.toNatClampNeg v16) then
      let I40 := u2 I36 a37 (Int32.toNatClampNeg v16) (I36 t 64)
      let I41 := u2 I40 t 59 (0 : Int32)
      let I42 := u2 I41 t 68 ((I41 t 68) + (1 : Int32))
      let I43 := u2 I42 t 58 (x3 + (1 : Int32))
      some I43
      else none
      else none
      else none
      else none
      else none
      else none
      else none
      else none
      else none
      else none
      else none
      else none
    else
      some I7
    else none
    else none
  else none
  else none
  else none
theorem wX12_behind_b40 {G : Gx} {l : Launch} {σ : Shp} {I : Nat → Nat → Int32} {J : Nat → Nat → Int64} {D : Nat → Nat → UInt64} {R : Nat → Nat → Option Nat} {t : Nat} {I9 : Nat → Nat → Int32} {x1 : Int32} {x3 : Int32} (h : fX12_behind_b40 σ R t I x1 x3 = some I9) : WX12_behind G l σ (σ, I9, J, D, R) none (σ, I, J, D, R) 40 [(0, vR (some t)), (1, vI x1), (3, vI x3)] [] := by
  unfold fX12_behind_b40 at h
  refine r_aload_n (pc := 40) dX12_behind_40 rfl 0 rfl ?_
  refine r_iload_n (pc := 41) dX12_behind_41 rfl 1 rfl ?_
  obtain ⟨g5, h⟩ := gd h
  refine r_putI (pc := 42) dX12_behind_42 fwX12_515 rfl g5 ?_
  refine r_aload_n (pc := 45) dX12_behind_45 rfl 0 rfl ?_
  refine r_iload_n (pc := 46) dX12_behind_46 rfl 2 rfl ?_
  refine r_putI (pc := 47) dX12_behind_47 fwX12_500 rfl g5 ?_
  refine r_iload_n (pc := 50) dX12_behind_50 rfl 2 rfl ?_
  refine r_aload_n (pc := 51) dX12_behind_51 rfl 0 rfl ?_
  obtain ⟨a8, ha8, h⟩ := ob h
  refine r_getS (pc := 52) dX12_behind_52 fgX12_74 rfl g5 ha8 ?_
  refine r_iload_n (pc := 55) dX12_behind_55 rfl 1 rfl ?_
  obtain ⟨g9, h⟩ := gd h
  obtain ⟨g10, h⟩ := gd h
  refine r_iaload (pc := 56) dX12_behind_56 g9 g10 ?_
  refine r_icmp_ge (pc := 57) (tgt := 178) dX12_behind_57 rfl (fun c => ?_) (fun c => ?_)
  · have h := it h c
    cases h
    exact r_vret dX12_behind_178
  · have h := ie h c
    refine r_aload_n (pc := 60) dX12_behind_60 rfl 0 rfl ?_
    obtain ⟨a11, ha11, h⟩ := ob h
    refine r_getS (pc := 61) dX12_behind_61 fgX12_77 rfl g5 ha11 ?_
    refine r_bipush (pc := 64) dX12_behind_64 kc_bipush_40 ?_
    refine r_iload_n (pc := 66) dX12_behind_66 rfl 1 rfl ?_
    refine r_imul (pc := 67) dX12_behind_67 ?_
    refine r_iload_n (pc := 68) dX12_behind_68 rfl 2 rfl ?_
    refine r_iadd (pc := 69) dX12_behind_69 ?_
    obtain ⟨g12, h⟩ := gd h
    obtain ⟨g13, h⟩ := gd h
    refine r_iaload (pc := 70) dX12_behind_70 g12 g13 ?_
    refine r_bipush (pc := 71) dX12_behind_71 kc_bipush_18 ?_
    refine r_icmp_ne (pc := 73) (tgt := 178) dX12_behind_73 rfl (fun c => ?_) (fun c => ?_)
    · have h := ie h c
      cases h
      exact r_vret dX12_behind_178
    · have h := it h c
      refine r_aload_n (pc := 76) dX12_behind_76 rfl 0 rfl ?_
      refine r_bipush (pc := 77) dX12_behind_77 kc_bipush_18 ?_
      obtain ⟨I14, hc15, h⟩ := ob h
      refine r_callV0 (pc := 79) (av := [vI (18 : Int32)]) (S := []) dX12_behind_79 (kX12_push hc15) g5 rfl mkX12_531 mwX12_push rfl ⟨Nat.le_of_ble_eq_true rfl, Nat.le_of_ble_eq_true rfl⟩ (Nat.le_of_ble_eq_true rfl) ⟨Nat.le_refl _, Nat.le_refl _⟩ (fun b => b) ?_
      refine r_aload_n (pc := 82) dX12_behind_82 rfl 0 rfl ?_
      refine r_getI (pc := 83) dX12_behind_83 fgX12_512 rfl g5 ?_
      refine r_iconst (pc := 86) dX12_behind_86 kc_iconst_1 ?_
      refine r_isub (pc := 87) dX12_behind_87 ?_
      refine r_istore (pc := 88) (L' := [(4, vI ((I14 t 42) - (1 : Int32))), (0, vR (some t)), (1, vI x1), (3, vI x3)]) dX12_behind_88 (by decide) rfl ?_
      refine r_aload_n (pc := 90) dX12_behind_90 rfl 1 rfl ?_
      obtain ⟨a17, ha17, h⟩ := ob h
      refine r_getS (pc := 91) dX12_behind_91 fgX12_116 rfl g5 ha17 ?_
      refine r_iload (pc := 94) dX12_behind_94 0 rfl ?_
      refine r_aload_n (pc := 96) dX12_behind_96 rfl 1 rfl ?_
      refine r_getI (pc := 97) dX12_behind_97 fgX12_491 rfl g5 ?_
      obtain ⟨g18, h⟩ := gd h
      obtain ⟨g19, h⟩ := gd h
      refine r_iastore (pc := 100) dX12_behind_100 g18 g19 ?_
      refine r_aload_n (pc := 101) dX12_behind_101 rfl 1 rfl ?_
      obtain ⟨a21, ha21, h⟩ := ob h
      refine r_getS (pc := 102) dX12_behind_102 fgX12_119 rfl g5 ha21 ?_
      refine r_iload (pc := 105) dX12_behind_105 0 rfl ?_
      refine r_aload_n (pc := 107) dX12_behind_107 rfl 1 rfl ?_
      refine r_getI (pc := 108) dX12_behind_108 fgX12_494 rfl g5 ?_
      obtain ⟨g22, h⟩ := gd h
      obtain ⟨g23, h⟩ := gd h
      refine r_iastore (pc := 111) dX12_behind_111 g22 g23 ?_
      refine r_aload_n (pc := 112) dX12_behind_112 rfl 1 rfl ?_
      obtain ⟨a25, ha25, h⟩ := ob h
      refine r_getS (pc := 113) dX12_behind_113 fgX12_122 rfl g5 ha25 ?_
      refine r_iload (pc := 116) dX12_behind_116 0 rfl ?_
      refine r_aload_n (pc := 118) dX12_behind_118 rfl 1 rfl ?_
      refine r_getI (pc := 119) dX12_behind_119 fgX12_497 rfl g5 ?_
      obtain ⟨g26, h⟩ := gd h
      obtain ⟨g27, h⟩ := gd h
      refine r_iastore (pc := 122) dX12_behind_122 g26 g27 ?_
      refine r_aload_n (pc := 123) dX12_behind_123 rfl 1 rfl ?_
      obtain ⟨a29, ha29, h⟩ := ob h
      refine r_getS (pc := 124) dX12_behind_124 fgX12_125 rfl g5 ha29 ?_
      refine r_iload (pc := 127) dX12_behind_127 0 rfl ?_
      refine r_aload_n (pc := 129) dX12_behind_129 rfl 1 rfl ?_
      refine r_getI (pc := 130) dX12_behind_130 fgX12_503 rfl g5 ?_
      obtain ⟨g30, h⟩ := gd h
      obtain ⟨g31, h⟩ := gd h
      refine r_iastore (pc := 133) dX12_behind_133 g30 g31 ?_
      refine r_aload_n (pc := 134) dX12_behind_134 rfl 1 rfl ?_
      obtain ⟨a33, ha33, h⟩ := ob h
      refine r_getS (pc := 135) dX12_behind_135 fgX12_128 rfl g5 ha33 ?_
      refine r_iload (pc := 138) dX12_behind_138 0 rfl ?_
      refine r_aload_n (pc := 140) dX12_behind_140 rfl 1 rfl ?_
      refine r_getI (pc := 141) dX12_behind_141 fgX12_506 rfl g5 ?_
      obtain ⟨g34, h⟩ := gd h
      obtain ⟨g35, h⟩ := gd h
      refine r_iastore (pc := 144) dX12_behind_144 g34 g35 ?_
      refine r_aload_n (pc := 145) dX12_behind_145 rfl 1 rfl ?_
      obtain ⟨a37, ha37, h⟩ := ob h
      refine r_getS (pc := 146) dX12_behind_146 fgX12_131 rfl g5 ha37 ?_
      refine r_iload (pc := 149) dX12_behind_149 0 rfl ?_
      refine r_aload_n (pc := 151) dX12_behind_151 rfl 1 rfl ?_
      refine r_getI (pc := 152) dX12_behind_152 fgX12_558 rfl g5 ?_
      obtain ⟨g38, h⟩ := gd h
      obtain ⟨g39, h⟩ := gd h
      refine r_iastore (pc := 155) dX12_behind_155 g38 g39 ?_
      refine r_aload_n (pc := 156) dX12_behind_156 rfl 1 rfl ?_
      refine r_iconst (pc := 157) dX12_behind_157 kc_iconst_0 ?_
      refine r_putI (pc := 158) dX12_behind_158 fwX12_491 rfl g5 ?_
      refine r_aload_n (pc := 161) dX12_behind_161 rfl 1 rfl ?_
      refine r_dup (pc := 162) dX12_behind_162 rfl ?_
      refine r_getI (pc := 163) dX12_behind_163 fgX12_570 rfl g5 ?_
      refine r_iconst (pc := 166) dX12_behind_166 kc_iconst_1 ?_
      refine r_iadd (pc := 167) dX12_behind_167 ?_
      refine r_putI (pc := 168) dX12_behind_168 fwX12_570 rfl g5 ?_
      refine r_aload_n (pc := 171) dX12_behind_171 rfl 1 rfl ?_
      refine r_iload_n (pc := 172) dX12_behind_172 rfl 3 rfl ?_
      refine r_iconst (pc := 173) dX12_behind_173 kc_iconst_1 ?_
      refine r_iadd (pc := 174) dX12_behind_174 ?_
      refine r_putI (pc := 175) dX12_behind_175 fwX12_500 rfl g5 ?_
      cases h
      exact r_vret dX12_behind_178
def fX12_behind_l2  (σ : Shp) (R : Nat → Nat → Option Nat) (t : Nat) : Nat → (Nat → Nat → Int32) → (Int32) → (Int32) → Option ((Nat → Nat → Int32))
  | 0, _, _, _ => none
  | n + 1, I, x1, x3 =>
    if kdx σ t = 13 then
    ((R t 33) : Option Nat).bind fun a2 =>
    if kdx σ a2 = 20 then
    if ¬ (x1 < 0 ∨ lnx σ a2 ≤ Int32.toNatClampNeg x1) then
    if (I a2 (Int32.toNatClampNeg x1)) ≤ x3 then
      fX12_behind_b40 σ R t I x1 x3
    else
      ((R t 34) : Option Nat).bind fun a44 =>
      if kdx σ a44 = 20 then
      if ¬ ((((40 : Int32) * x1) + x3) < 0 ∨ lnx σ a44 ≤ Int32.toNatClampNeg (((40 : Int32) * x1) + x3)) then
      if (I a44 (Int32.toNatClampNeg (((40 : Int32) * x1) + x3))) = (17 : Int32) then
        (fX12_endOf σ I R t x1 x3).bind fun r47 =>
        let v49 := (r47 + (1 : Int32))
        fX12_behind_l2 σ R t n I x1 v49
      else
        fX12_behind_b40 σ R t I x1 x3
      else none
      else none
    else none
    else none
    else none
theorem wX12_behind_l2 {G : Gx} {l : Launch} {σ : Shp} {J : Nat → Nat → Int64} {D : Nat → Nat → UInt64} {R : Nat → Nat → Option Nat} {t : Nat} {I9 : Nat → Nat → Int32} : ∀ (n : Nat) (I : Nat → Nat → Int32) (x1 : Int32) (x3 : Int32), fX12_behind_l2 σ R t n I x1 x3 = some I9 → WX12_behind G l σ (σ, I9, J, D, R) none (σ, I, J, D, R) 2 [(0, vR (some t)), (1, vI x1), (3, vI x3)] [] := by
  intro n
  induction n with
  | zero =>
    intro I x1 x3 h
    have h : none = some _ := h
    cases h
  | succ n ih =>
    intro I x1 x3 h
    rw [fX12_behind_l2] at h
    refine r_iload_n (pc := 2) dX12_behind_2 rfl 2 rfl ?_
    refine r_aload_n (pc := 3) dX12_behind_3 rfl 0 rfl ?_
    obtain ⟨g1, h⟩ := gd h
    obtain ⟨a2, ha2, h⟩ := ob h
    refine r_getS (pc := 4) dX12_behind_4 fgX12_74 rfl g1 ha2 ?_
    refine r_iload_n (pc := 7) dX12_behind_7 rfl 1 rfl ?_
    obtain ⟨g3, h⟩ := gd h
    obtain ⟨g4, h⟩ := gd h
    refine r_iaload (pc := 8) dX12_behind_8 g3 g4 ?_
    refine r_icmp_ge (pc := 9) (tgt := 40) dX12_behind_9 rfl (fun c => ?_) (fun c => ?_)
    · have h := it h c
      refine r_sub [0, 1, 2] rfl ?_
      exact wX12_behind_b40 h
    · have h := ie h c
      refine r_aload_n (pc := 12) dX12_behind_12 rfl 0 rfl ?_
      obtain ⟨a44, ha44, h⟩ := ob h
      refine r_getS (pc := 13) dX12_behind_13 fgX12_77 rfl g1 ha44 ?_
      refine r_bipush (pc := 16) dX12_behind_16 kc_bipush_40 ?_
      refine r_iload_n (pc := 18) dX12_behind_18 rfl 1 rfl ?_
      refine r_imul (pc := 19) dX12_behind_19 ?_
      refine r_iload_n (pc := 20) dX12_behind_20 rfl 2 rfl ?_
      refine r_iadd (pc := 21) dX12_behind_21 ?_
      obtain ⟨g45, h⟩ := gd h
      obtain ⟨g46, h⟩ := gd h
      refine r_iaload (pc := 22) dX12_behind_22 g45 g46 ?_
      refine r_bipush (pc := 23) dX12_behind_23 kc_bipush_17 ?_
      refine r_icmp_ne (pc := 25) (tgt := 40) dX12_behind_25 rfl (fun c => ?_) (fun c => ?_)
      · have h := ie h c
        refine r_sub [0, 1, 2] rfl ?_
        exact wX12_behind_b40 h
      · have h := it h c
        refine r_aload_n (pc := 28) dX12_behind_28 rfl 0 rfl ?_
        refine r_iload_n (pc := 29) dX12_behind_29 rfl 1 rfl ?_
        refine r_iload_n (pc := 30) dX12_behind_30 rfl 2 rfl ?_
        obtain ⟨r47, hc48, h⟩ := ob h
        refine r_callV1 (pc := 31) (av := [vI x1, vI x3]) (S := []) dX12_behind_31 (kX12_endOf hc48) g1 rfl mkX12_528 mwX12_endOf rfl ⟨Nat.le_of_ble_eq_true rfl, Nat.le_of_ble_eq_true rfl⟩ (Nat.le_of_ble_eq_true rfl) ⟨Nat.le_refl _, Nat.le_refl _⟩ (fun b => b) ?_
        refine r_iconst (pc := 34) dX12_behind_34 kc_iconst_1 ?_
        refine r_iadd (pc := 35) dX12_behind_35 ?_
        refine r_istore_n (pc := 36) (L' := [(3, vI (r47 + (1 : Int32))), (0, vR (some t)), (1, vI x1)]) dX12_behind_36 rfl (by decide) rfl ?_
        refine r_goto (pc := 37) (tgt := 2) dX12_behind_37 rfl ?_
        refine r_sub [1, 2, 0] rfl ?_
        exact ih _ _ _ h
def fX12_behind (σ : Shp) (I : Nat → Nat → Int32) (R : Nat → Nat → Option Nat) (t : Nat) (x1 : Int32) (x2 : Int32) : Option ((Nat → Nat → Int32)) :=
  fX12_behind_l2 σ R t FUx I x1 x2
theorem kX12_behind {G : Gx} {l : Launch} {σ : Shp} {I : Nat → Nat → Int32} {J : Nat → Nat → Int64} {D : Nat → Nat → UInt64} {R : Nat → Nat → Option Nat} {t : Nat} {x1 : Int32} {x2 : Int32} {I9 : Nat → Nat → Int32} (h : fX12_behind σ I R t x1 x2 = some I9) : Con G l yX12_behind cX12_behind 5 none 2 45 [vR (some t), vI x1, vI x2] (σ, I, J, D, R) (σ, I9, J, D, R) none := by
  unfold fX12_behind at h
  refine Con.mk (by decide +kernel) rfl (Nat.le_of_ble_eq_true rfl) ?_
  show WX12_behind G l σ (σ, I9, J, D, R) none (σ, I, J, D, R) 0 _ []
  refine r_iload_n (pc := 0) dX12_behind_0 rfl 2 rfl ?_
  refine r_istore_n (pc := 1) (L' := [(3, vI x2), (0, vR (some t)), (1, vI x1), (2, vI x2)]) dX12_behind_1 rfl (by decide) rfl ?_
  refine r_sub [1, 2, 0] rfl ?_
  exact wX12_behind_l2 _ _ _ _ h
abbrev WX12_close (G : Gx) (l : Launch) (σ0 : Shp) (X1 : Stt) (rv : Option SV) : Stt → Nat → List (Nat × SV) → List SV → Prop := Wm G l yX12_close cX12_close 4 none (fun _ => True) (rmx 3 69 σ0 X1.1) σ0 (Qmx G σ0 X1 rv)
def fX12_close (σ : Shp) (I : Nat → Nat → Int32) (J : Nat → Nat → Int64) (R : Nat → Nat → Option Nat) (t : Nat)  : Option ((Nat → Nat → Int32) × (Nat → Nat → Int64)) :=
  if kdx σ t = 13 then
  let v2 := ((I t 42) - (1 : Int32))
  ((R t 43) : Option Nat).bind fun a3 =>
  if kdx σ a3 = 20 then
  if ¬ (v2 < 0 ∨ lnx σ a3 ≤ Int32.toNatClampNeg v2) then
  let v6 := (I a3 (Int32.toNatClampNeg v2))
  (fX12_giveBack σ I J R t v2).bind fun (I7, J8) =>
  let I10 := u2 I7 t 42 ((I7 t 42) - (1 : Int32))
  let v11 := (I10 t 58)
  if v6 = (16 : Int32) then
    (fX12_behind σ I10 R t (I10 t 57) (v11 + (1 : Int32))).bind fun I50 =>
    some (I50, J8)
  else
  if v6 = (17 : Int32) then
    (fX12_behind σ I10 R t (I10 t 57) (v11 + (1 : Int32))).bind fun I48 =>
    some (I48, J8)
  else
  if v6 = (18 : Int32) then
    let I23 := u2 I10 t 58 (v11 + (1 : Int32))
    ((R t 48) : Option Nat).bind fun a24 =>
    if kdx σ a24 = 20 then
    if ¬ (v2 < 0 ∨ lnx σ a24 ≤ Int32.toNatClampNeg v2) then
    let I27 := u2 I23 t 59 (I23 a24 (Int32.toNatClampNeg v2))
    ((R t 49) : Option Nat).bind fun a28 =>
    if kdx σ a28 = 20 then
    if ¬ (v2 < 0 ∨ lnx σ a28 ≤ Int32.toNatClampNeg v2) then
    let I31 := u2 I27 t 60 (I27 a28 (Int32.toNatClampNeg v2))
    ((R t 50) : Option Nat).bind fun a32 =>
    if kdx σ a32 = 20 then
    if ¬ (v2 < 0 ∨ lnx σ a32 ≤ Int32.toNatClampNeg v2) then
    let I35 := u2 I31 t 61 (I31 a32 (Int32.toNatClampNeg v2))
    ((R t 51) : Option Nat).bind fun a36 =>
    if kdx σ a36 = 20 then
    if ¬ (v2 < 0 ∨ lnx σ a36 ≤ Int32.toNatClampNeg v2) then
    let I39 := u2 I35 t 62 (I35 a36 (Int32.toNatClampNeg v2))
    ((R t 52) : Option Nat).bind fun a40 =>
    if kdx σ a40 = 20 then
    if ¬ (v2 < 0 ∨ lnx σ a40 ≤ Int32.toNatClampNeg v2) then
    let I43 := u2 I39 t 63 (I39 a40 (Int32.toNatClampNeg v2))
    ((R t 53) : Option Nat).bind fun a44 =>
    if kdx σ a44 = 20 then
    if ¬ (v2 < 0 ∨ lnx σ a44 ≤ Int32.toNatClampNeg v2) then
    let I47 := u2 I43 t 64 (I43 a44 (Int32.toNatClampNeg v2))
    some (I47, J8)
    else none
    else none
    else none
    else none
    else none
    else none
    else none
    else none
    else none
    else none
    else none
    else none
  else
  if v6 = (19 : Int32) then
    let I22 := u2 I10 t 58 (v11 + (1 : Int32))
    some (I22, J8)
  else
  if v6 = (20 : Int32) then
    ((R t 45) : Option Nat).bind fun a18 =>
    if kdx σ a18 = 20 then
    if ¬ (v2 < 0 ∨ lnx σ a18 ≤ Int32.toNatClampNeg v2) then
    let I21 := u2 I10 t 58 (I10 a18 (Int32.toNatClampNeg v2))
    some (I21, J8)
    else none
    else none
  else
  let I17 := u2 I10 t 58 (v11 + (1 : Int32))
  some (I17, J8)
  else none
  else none
  else none
theorem kX12_close {G : Gx} {l : Launch} {σ : Shp} {I : Nat → Nat → Int32} {J : Nat → Nat → Int64} {D : Nat → Nat → UInt64} {R : Nat → Nat → Option Nat} {t : Nat}  {I9 : Nat → Nat → Int32} {J9 : Nat → Nat → Int64} (h : fX12_close σ I J R t = some (I9, J9)) : Con G l yX12_close cX12_close 4 none 3 69 [vR (some t)] (σ, I, J, D, R) (σ, I9, J9, D, R) none := by
  unfold fX12_close at h
  refine Con.mk (by decide +kernel) rfl (Nat.le_of_ble_eq_true rfl) ?_
  show WX12_close G l σ (σ, I9, J9, D, R) none (σ, I, J, D, R) 0 _ []
  refine r_aload_n (pc := 0) dX12_close_0 rfl 0 rfl ?_
  obtain ⟨g1, h⟩ := gd h
  refine r_getI (pc := 1) dX12_close_1 fgX12_512 rfl g1 ?_
  refine r_iconst (pc := 4) dX12_close_4 kc_iconst_1 ?_
  refine r_isub (pc := 5) dX12_close_5 ?_
  refine r_istore_n (pc := 6) (L' := [(1, vI ((I t 42) - (1 : Int32))), (0, vR (some t))]) dX12_close_6 rfl (by decide) rfl ?_
  refine r_aload_n (pc := 7) dX12_close_7 rfl 1 rfl ?_
  obtain ⟨a3, ha3, h⟩ := ob h
  refine r_getS (pc := 8) dX12_close_8 fgX12_101 rfl g1 ha3 ?_
  refine r_iload_n (pc := 11) dX12_close_11 rfl 0 rfl ?_
  obtain ⟨g4, h⟩ := gd h
  obtain ⟨g5, h⟩ := gd h
  refine r_iaload (pc := 12) dX12_close_12 g4 g5 ?_
  refine r_istore_n (pc := 13) (L' := [(2, vI (I a3 (Int32.toNatClampNeg ((I t 42) - (1 : Int32))))), (1, vI ((I t 42) - (1 : Int32))), (0, vR (some t))]) dX12_close_13 rfl (by decide) rfl ?_
  refine r_aload_n (pc := 14) dX12_close_14 rfl 2 rfl ?_
  refine r_iload_n (pc := 15) dX12_close_15 rfl 1 rfl ?_
  obtain ⟨⟨I7, J8⟩, hc9, h⟩ := ob h
  refine r_callV0 (pc := 16) (av := [vI ((I t 42) - (1 : Int32))]) (S := []) dX12_close_16 (kX12_giveBack hc9) g1 rfl mkX12_573 mwX12_giveBack rfl ⟨Nat.le_of_ble_eq_true rfl, Nat.le_of_ble_eq_true rfl⟩ (Nat.le_of_ble_eq_true rfl) ⟨Nat.le_refl _, Nat.le_refl _⟩ (fun b => b) ?_
  refine r_aload_n (pc := 19) dX12_close_19 rfl 2 rfl ?_
  refine r_dup (pc := 20) dX12_close_20 rfl ?_
  refine r_getI (pc := 21) dX12_close_21 fgX12_512 rfl g1 ?_
  refine r_iconst (pc := 24) dX12_close_24 kc_iconst_1 ?_
  refine r_isub (pc := 25) dX12_close_25 ?_
  refine r_putI (pc := 26) dX12_close_26 fwX12_512 rfl g1 ?_
  refine r_aload_n (pc := 29) dX12_close_29 rfl 2 rfl ?_
  refine r_getI (pc := 30) dX12_close_30 fgX12_500 rfl g1 ?_
  refine r_istore_n (pc := 33) (L' := [(3, vI ((u2 I7 t 42 ((I7 t 42) - (1 : Int32))) t 58)), (2, vI (I a3 (Int32.toNatClampNeg ((I t 42) - (1 : Int32))))), (1, vI ((I t 42) - (1 : Int32))), (0, vR (some t))]) dX12_close_33 rfl (by decide) rfl ?_
  refine r_iload_n (pc := 34) dX12_close_34 rfl 1 rfl ?_
  rcases itc h with ⟨c12, h⟩ | ⟨c12, h⟩
  · refine r_tsIn (x := (I a3 (Int32.toNatClampNeg ((I t 42) - (1 : Int32))))) (pc := 35) (tgt := 81) dX12_close_35 (by rw [c12]; decide) (by rw [c12]; decide) (by rw [c12]; rfl) rfl ?_
    refine r_aload_n (pc := 81) dX12_close_81 rfl 3 rfl ?_
    refine r_aload_n (pc := 82) dX12_close_82 rfl 3 rfl ?_
    refine r_getI (pc := 83) dX12_close_83 fgX12_515 rfl g1 ?_
    refine r_iload_n (pc := 86) dX12_close_86 rfl 0 rfl ?_
    refine r_iconst (pc := 87) dX12_close_87 kc_iconst_1 ?_
    refine r_iadd (pc := 88) dX12_close_88 ?_
    obtain ⟨I50, hc51, h⟩ := ob h
    refine r_callV0 (pc := 89) (av := [vI ((u2 I7 t 42 ((I7 t 42) - (1 : Int32))) t 57), vI (((u2 I7 t 42 ((I7 t 42) - (1 : Int32))) t 58) + (1 : Int32))]) (S := []) dX12_close_89 (kX12_behind hc51) g1 rfl mkX12_576 mwX12_behind rfl ⟨Nat.le_of_ble_eq_true rfl, Nat.le_of_ble_eq_true rfl⟩ (Nat.le_of_ble_eq_true rfl) ⟨Nat.le_refl _, Nat.le_refl _⟩ (fun b => b) ?_
    refine r_goto (pc := 92) (tgt := 172) dX12_close_92 rfl ?_
    cases h
    exact r_vret dX12_close_172
  · rcases itc h with ⟨c13, h⟩ | ⟨c13, h⟩
    · refine r_tsIn (x := (I a3 (Int32.toNatClampNeg ((I t 42) - (1 : Int32))))) (pc := 35) (tgt := 81) dX12_close_35 (by rw [c13]; decide) (by rw [c13]; decide) (by rw [c13]; rfl) rfl ?_
      refine r_aload_n (pc := 81) dX12_close_81 rfl 3 rfl ?_
      refine r_aload_n (pc := 82) dX12_close_82 rfl 3 rfl ?_
      refine r_getI (pc := 83) dX12_close_83 fgX12_515 rfl g1 ?_
      refine r_iload_n (pc := 86) dX12_close_86 rfl 0 rfl ?_
      refine r_iconst (pc := 87) dX12_close_87 kc_iconst_1 ?_
      refine r_iadd (pc := 88) dX12_close_88 ?_
      obtain ⟨I48, hc49, h⟩ := ob h
      refine r_callV0 (pc := 89) (av := [vI ((u2 I7 t 42 ((I7 t 42) - (1 : Int32))) t 57), vI (((u2 I7 t 42 ((I7 t 42) - (1 : Int32))) t 58) + (1 : Int32))]) (S := []) dX12_close_89 (kX12_behind hc49) g1 rfl mkX12_576 mwX12_behind rfl ⟨Nat.le_of_ble_eq_true rfl, Nat.le_of_ble_eq_true rfl⟩ (Nat.le_of_ble_eq_true rfl) ⟨Nat.le_refl _, Nat.le_refl _⟩ (fun b => b) ?_
      refine r_goto (pc := 92) (tgt := 172) dX12_close_92 rfl ?_
      cases h
      exact r_vret dX12_close_172
    · rcases itc h with ⟨c14, h⟩ | ⟨c14, h⟩
      · refine r_tsIn (x := (I a3 (Int32.toNatClampNeg ((I t 42) - (1 : Int32))))) (pc := 35) (tgt := 95) dX12_close_35 (by rw [c14]; decide) (by rw [c14]; decide) (by rw [c14]; rfl) rfl ?_
        refine r_aload_n (pc := 95) dX12_close_95 rfl 3 rfl ?_
        refine r_iload_n (pc := 96) dX12_close_96 rfl 0 rfl ?_
        refine r_iconst (pc := 97) dX12_close_97 kc_iconst_1 ?_
        refine r_iadd (pc := 98) dX12_close_98 ?_
        refine r_putI (pc := 99) dX12_close_99 fwX12_500 rfl g1 ?_
        refine r_aload_n (pc := 102) dX12_close_102 rfl 3 rfl ?_
        refine r_aload_n (pc := 103) dX12_close_103 rfl 3 rfl ?_
        obtain ⟨a24, ha24, h⟩ := ob h
        refine r_getS (pc := 104) dX12_close_104 fgX12_116 rfl g1 ha24 ?_
        refine r_iload_n (pc := 107) dX12_close_107 rfl 2 rfl ?_
        obtain ⟨g25, h⟩ := gd h
        obtain ⟨g26, h⟩ := gd h
        refine r_iaload (pc := 108) dX12_close_108 g25 g26 ?_
        refine r_putI (pc := 109) dX12_close_109 fwX12_491 rfl g1 ?_
        refine r_aload_n (pc := 112) dX12_close_112 rfl 3 rfl ?_
        refine r_aload_n (pc := 113) dX12_close_113 rfl 3 rfl ?_
        obtain ⟨a28, ha28, h⟩ := ob h
        refine r_getS (pc := 114) dX12_close_114 fgX12_119 rfl g1 ha28 ?_
        refine r_iload_n (pc := 117) dX12_close_117 rfl 2 rfl ?_
        obtain ⟨g29, h⟩ := gd h
        obtain ⟨g30, h⟩ := gd h
        refine r_iaload (pc := 118) dX12_close_118 g29 g30 ?_
        refine r_putI (pc := 119) dX12_close_119 fwX12_494 rfl g1 ?_
        refine r_aload_n (pc := 122) dX12_close_122 rfl 3 rfl ?_
        refine r_aload_n (pc := 123) dX12_close_123 rfl 3 rfl ?_
        obtain ⟨a32, ha32, h⟩ := ob h
        refine r_getS (pc := 124) dX12_close_124 fgX12_122 rfl g1 ha32 ?_
        refine r_iload_n (pc := 127) dX12_close_127 rfl 2 rfl ?_
        obtain ⟨g33, h⟩ := gd h
        obtain ⟨g34, h⟩ := gd h
        refine r_iaload (pc := 128) dX12_close_128 g33 g34 ?_
        refine r_putI (pc := 129) dX12_close_129 fwX12_497 rfl g1 ?_
        refine r_aload_n (pc := 132) dX12_close_132 rfl 3 rfl ?_
        refine r_aload_n (pc := 133) dX12_close_133 rfl 3 rfl ?_
        obtain ⟨a36, ha36, h⟩ := ob h
        refine r_getS (pc := 134) dX12_close_134 fgX12_125 rfl g1 ha36 ?_
        refine r_iload_n (pc := 137) dX12_close_137 rfl 2 rfl ?_
        obtain ⟨g37, h⟩ := gd h
        obtain ⟨g38, h⟩ := gd h
        refine r_iaload (pc := 138) dX12_close_138 g37 g38 ?_
        refine r_putI (pc := 139) dX12_close_139 fwX12_503 rfl g1 ?_
        refine r_aload_n (pc := 142) dX12_close_142 rfl 3 rfl ?_
        refine r_aload_n (pc := 143) dX12_close_143 rfl 3 rfl ?_
        obtain ⟨a40, ha40, h⟩ := ob h
        refine r_getS (pc := 144) dX12_close_144 fgX12_128 rfl g1 ha40 ?_
        refine r_iload_n (pc := 147) dX12_close_147 rfl 2 rfl ?_
        obtain ⟨g41, h⟩ := gd h
        obtain ⟨g42, h⟩ := gd h
        refine r_iaload (pc := 148) dX12_close_148 g41 g42 ?_
        refine r_putI (pc := 149) dX12_close_149 fwX12_506 rfl g1 ?_
        refine r_aload_n (pc := 152) dX12_close_152 rfl 3 rfl ?_
        refine r_aload_n (pc := 153) dX12_close_153 rfl 3 rfl ?_
        obtain ⟨a44, ha44, h⟩ := ob h
        refine r_getS (pc := 154) dX12_close_154 fgX12_131 rfl g1 ha44 ?_
        refine r_iload_n (pc := 157) dX12_close_157 rfl 2 rfl ?_
        obtain ⟨g45, h⟩ := gd h
        obtain ⟨g46, h⟩ := gd h
        refine r_iaload (pc := 158) dX12_close_158 g45 g46 ?_
        refine r_putI (pc := 159) dX12_close_159 fwX12_558 rfl g1 ?_
        refine r_goto (pc := 162) (tgt := 172) dX12_close_162 rfl ?_
        cases h
        exact r_vret dX12_close_172
      · rcases itc h with ⟨c15, h⟩ | ⟨c15, h⟩
        · refine r_tsIn (x := (I a3 (Int32.toNatClampNeg ((I t 42) - (1 : Int32))))) (pc := 35) (tgt := 165) dX12_close_35 (by rw [c15]; decide) (by rw [c15]; decide) (by rw [c15]; rfl) rfl ?_
          refine r_aload_n (pc := 165) dX12_close_165 rfl 3 rfl ?_
          refine r_iload_n (pc := 166) dX12_close_166 rfl 0 rfl ?_
          refine r_iconst (pc := 167) dX12_close_167 kc_iconst_1 ?_
          refine r_iadd (pc := 168) dX12_close_168 ?_
          refine r_putI (pc := 169) dX12_close_169 fwX12_500 rfl g1 ?_
          cases h
          exact r_vret dX12_close_172
        · rcases itc h with ⟨c16, h⟩ | ⟨c16, h⟩
          · refine r_tsIn (x := (I a3 (Int32.toNatClampNeg ((I t 42) - (1 : Int32))))) (pc := 35) (tgt := 68) dX12_close_35 (by rw [c16]; decide) (by rw [c16]; decide) (by rw [c16]; rfl) rfl ?_
            refine r_aload_n (pc := 68) dX12_close_68 rfl 3 rfl ?_
            refine r_aload_n (pc := 69) dX12_close_69 rfl 3 rfl ?_
            obtain ⟨a18, ha18, h⟩ := ob h
            refine r_getS (pc := 70) dX12_close_70 fgX12_107 rfl g1 ha18 ?_
            refine r_iload_n (pc := 73) dX12_close_73 rfl 2 rfl ?_
            obtain ⟨g19, h⟩ := gd h
            obtain ⟨g20, h⟩ := gd h
            refine r_iaload (pc := 74) dX12_close_74 g19 g20 ?_
            refine r_putI (pc := 75) dX12_close_75 fwX12_500 rfl g1 ?_
            refine r_goto (pc := 78) (tgt := 172) dX12_close_78 rfl ?_
            cases h
            exact r_vret dX12_close_172
          · refine r_tsOut (x := (I a3 (Int32.toNatClampNeg ((I t 42) - (1 : Int32))))) (pc := 35) (tgt := 165) dX12_close_35 (by have ec12 := i32n c12 (k := 16) rfl; have ec13 := i32n c13 (k := 17) rfl; have ec14 := i32n c14 (k := 18) rfl; have ec15 := i32n c15 (k := 19) rfl; have ec16 := i32n c16 (k := 20) rfl; omega) rfl ?_
            refine r_aload_n (pc := 165) dX12_close_165 rfl 3 rfl ?_
            refine r_iload_n (pc := 166) dX12_close_166 rfl 0 rfl ?_
            refine r_iconst (pc := 167) dX12_close_167 kc_iconst_1 ?_
            refine r_iadd (pc := 168) dX12_close_168 ?_
            refine r_putI (pc := 169) dX12_close_169 fwX12_500 rfl g1 ?_
            cases h
            exact r_vret dX12_close_172
abbrev WX12_isMet (G : Gx) (l : Launch) (σ0 : Shp) (X1 : Stt) (rv : Option SV) : Stt → Nat → List (Nat × SV) → List SV → Prop := Wm G l yX12_isMet cX12_isMet 5 (some .boolean) (fun _ => True) (rmx 2 45 σ0 X1.1) σ0 (Qmx G σ0 X1 rv)
def fX12_isMet_b62  (σ : Shp) (R : Nat → Nat → Option Nat) (t : Nat) (I : Nat → Nat → Int32) (x1 : Int32) (x3 : Int32) : Option ((Nat → Nat → Int32) × (Int32)) :=
  if kdx σ t = 13 then
  let I17 := u2 I t 57 x1
  let I18 := u2 I17 t 58 x3
  (fX12_push σ I18 R t (17 : Int32)).bind fun I19 =>
  ((R t 49) : Option Nat).bind fun a21 =>
  if kdx σ a21 = 20 then
  if ¬ (((I19 t 42) - (1 : Int32)) < 0 ∨ lnx σ a21 ≤ Int32.toNatClampNeg ((I19 t 42) - (1 : Int32))) then
  let I24 := u2 I19 a21 (Int32.toNatClampNeg ((I19 t 42) - (1 : Int32))) (I19 t 60)
  let I25 := u2 I24 t 67 ((I24 t 67) + (1 : Int32))
  let I26 := u2 I25 t 59 (0 : Int32)
  let I27 := u2 I26 t 58 ((I26 t 58) + (1 : Int32))
  some (I27, (1 : Int32))
  else none
  else none
  else none
theorem wX12_isMet_b62 {G : Gx} {l : Launch} {σ : Shp} {I : Nat → Nat → Int32} {J : Nat → Nat → Int64} {D : Nat → Nat → UInt64} {R : Nat → Nat → Option Nat} {t : Nat} {I9 : Nat → Nat → Int32} {r9 : Int32} {x1 : Int32} {x3 : Int32} (h : fX12_isMet_b62 σ R t I x1 x3 = some (I9, r9)) : WX12_isMet G l σ (σ, I9, J, D, R) (some (vI r9)) (σ, I, J, D, R) 62 [(0, vR (some t)), (1, vI x1), (3, vI x3)] [] := by
  unfold fX12_isMet_b62 at h
  refine r_aload_n (pc := 62) dX12_isMet_62 rfl 0 rfl ?_
  refine r_iload_n (pc := 63) dX12_isMet_63 rfl 1 rfl ?_
  obtain ⟨g16, h⟩ := gd h
  refine r_putI (pc := 64) dX12_isMet_64 fwX12_515 rfl g16 ?_
  refine r_aload_n (pc := 67) dX12_isMet_67 rfl 0 rfl ?_
  refine r_iload_n (pc := 68) dX12_isMet_68 rfl 2 rfl ?_
  refine r_putI (pc := 69) dX12_isMet_69 fwX12_500 rfl g16 ?_
  refine r_aload_n (pc := 72) dX12_isMet_72 rfl 0 rfl ?_
  refine r_bipush (pc := 73) dX12_isMet_73 kc_bipush_17 ?_
  obtain ⟨I19, hc20, h⟩ := ob h
  refine r_callV0 (pc := 75) (av := [vI (17 : Int32)]) (S := []) dX12_isMet_75 (kX12_push hc20) g16 rfl mkX12_531 mwX12_push rfl ⟨Nat.le_of_ble_eq_true rfl, Nat.le_of_ble_eq_true rfl⟩ (Nat.le_of_ble_eq_true rfl) ⟨Nat.le_refl _, Nat.le_refl _⟩ (fun b => b) ?_
  refine r_aload_n (pc := 78) dX12_isMet_78 rfl 0 rfl ?_
  obtain ⟨a21, ha21, h⟩ := ob h
  refine r_getS (pc := 79) dX12_isMet_79 fgX12_119 rfl g16 ha21 ?_
  refine r_aload_n (pc := 82) dX12_isMet_82 rfl 0 rfl ?_
  refine r_getI (pc := 83) dX12_isMet_83 fgX12_512 rfl g16 ?_
  refine r_iconst (pc := 86) dX12_isMet_86 kc_iconst_1 ?_
  refine r_isub (pc := 87) dX12_isMet_87 ?_
  refine r_aload_n (pc := 88) dX12_isMet_88 rfl 0 rfl ?_
  refine r_getI (pc := 89) dX12_isMet_89 fgX12_494 rfl g16 ?_
  obtain ⟨g22, h⟩ := gd h
  obtain ⟨g23, h⟩ := gd h
  refine r_iastore (pc := 92) dX12_isMet_92 g22 g23 ?_
  refine r_aload_n (pc := 93) dX12_isMet_93 rfl 0 rfl ?_
  refine r_dup (pc := 94) dX12_isMet_94 rfl ?_
  refine r_getI (pc := 95) dX12_isMet_95 fgX12_579 rfl g16 ?_
  refine r_iconst (pc := 98) dX12_isMet_98 kc_iconst_1 ?_
  refine r_iadd (pc := 99) dX12_isMet_99 ?_
  refine r_putI (pc := 100) dX12_isMet_100 fwX12_579 rfl g16 ?_
  refine r_aload_n (pc := 103) dX12_isMet_103 rfl 0 rfl ?_
  refine r_iconst (pc := 104) dX12_isMet_104 kc_iconst_0 ?_
  refine r_putI (pc := 105) dX12_isMet_105 fwX12_491 rfl g16 ?_
  refine r_aload_n (pc := 108) dX12_isMet_108 rfl 0 rfl ?_
  refine r_dup (pc := 109) dX12_isMet_109 rfl ?_
  refine r_getI (pc := 110) dX12_isMet_110 fgX12_500 rfl g16 ?_
  refine r_iconst (pc := 113) dX12_isMet_113 kc_iconst_1 ?_
  refine r_iadd (pc := 114) dX12_isMet_114 ?_
  refine r_putI (pc := 115) dX12_isMet_115 fwX12_500 rfl g16 ?_
  refine r_iconst (pc := 118) dX12_isMet_118 kc_iconst_1 ?_
  cases h
  exact r_zret dX12_isMet_119 (Or.inr rfl)
def fX12_isMet_l9  (σ : Shp) (R : Nat → Nat → Option Nat) (t : Nat) : Nat → (Nat → Nat → Int32) → (Int32) → (Int32) → Option ((Nat → Nat → Int32) × (Int32))
  | 0, _, _, _ => none
  | n + 1, I, x1, x3 =>
    if kdx σ t = 13 then
    ((R t 33) : Option Nat).bind fun a6 =>
    if kdx σ a6 = 20 then
    if ¬ (x1 < 0 ∨ lnx σ a6 ≤ Int32.toNatClampNeg x1) then
    if (I a6 (Int32.toNatClampNeg x1)) ≤ x3 then
      some (I, (0 : Int32))
    else
      ((R t 34) : Option Nat).bind fun a9 =>
      if kdx σ a9 = 20 then
      if ¬ ((((40 : Int32) * x1) + x3) < 0 ∨ lnx σ a9 ≤ Int32.toNatClampNeg (((40 : Int32) * x1) + x3)) then
      if (I a9 (Int32.toNatClampNeg (((40 : Int32) * x1) + x3))) = (17 : Int32) then
        ((R t 35) : Option Nat).bind fun a12 =>
        if kdx σ a12 = 20 then
        if ¬ ((((40 : Int32) * x1) + x3) < 0 ∨ lnx σ a12 ≤ Int32.toNatClampNeg (((40 : Int32) * x1) + x3)) then
        let v15 := (I a12 (Int32.toNatClampNeg (((40 : Int32) * x1) + x3)))
        if v15 = 0 then
          fX12_isMet_b62 σ R t I x1 x3
        else
          if v15 = (I t 60) then
            fX12_isMet_b62 σ R t I x1 x3
          else
            (fX12_endOf σ I R t x1 x3).bind fun r28 =>
            let v30 := (r28 + (1 : Int32))
            fX12_isMet_l9 σ R t n I x1 v30
        else none
        else none
      else
        some (I, (0 : Int32))
      else none
      else none
    else none
    else none
    else none
theorem wX12_isMet_l9 {G : Gx} {l : Launch} {σ : Shp} {J : Nat → Nat → Int64} {D : Nat → Nat → UInt64} {R : Nat → Nat → Option Nat} {t : Nat} {I9 : Nat → Nat → Int32} {r9 : Int32} : ∀ (n : Nat) (I : Nat → Nat → Int32) (x1 : Int32) (x3 : Int32), fX12_isMet_l9 σ R t n I x1 x3 = some (I9, r9) → WX12_isMet G l σ (σ, I9, J, D, R) (some (vI r9)) (σ, I, J, D, R) 9 [(0, vR (some t)), (1, vI x1), (3, vI x3)] [] := by
  intro n
  induction n with
  | zero =>
    intro I x1 x3 h
    have h : none = some _ := h
    cases h
  | succ n ih =>
    intro I x1 x3 h
    rw [fX12_isMet_l9] at h
    refine r_iload_n (pc := 9) dX12_isMet_9 rfl 2 rfl ?_
    refine r_aload_n (pc := 10) dX12_isMet_10 rfl 0 rfl ?_
    obtain ⟨g5, h⟩ := gd h
    obtain ⟨a6, ha6, h⟩ := ob h
    refine r_getS (pc := 11) dX12_isMet_11 fgX12_74 rfl g5 ha6 ?_
    refine r_iload_n (pc := 14) dX12_isMet_14 rfl 1 rfl ?_
    obtain ⟨g7, h⟩ := gd h
    obtain ⟨g8, h⟩ := gd h
    refine r_iaload (pc := 15) dX12_isMet_15 g7 g8 ?_
    refine r_icmp_ge (pc := 16) (tgt := 132) dX12_isMet_16 rfl (fun c => ?_) (fun c => ?_)
    · have h := it h c
      refine r_iconst (pc := 132) dX12_isMet_132 kc_iconst_0 ?_
      cases h
      exact r_zret dX12_isMet_133 (Or.inl rfl)
    · have h := ie h c
      refine r_aload_n (pc := 19) dX12_isMet_19 rfl 0 rfl ?_
      obtain ⟨a9, ha9, h⟩ := ob h
      refine r_getS (pc := 20) dX12_isMet_20 fgX12_77 rfl g5 ha9 ?_
      refine r_bipush (pc := 23) dX12_isMet_23 kc_bipush_40 ?_
      refine r_iload_n (pc := 25) dX12_isMet_25 rfl 1 rfl ?_
      refine r_imul (pc := 26) dX12_isMet_26 ?_
      refine r_iload_n (pc := 27) dX12_isMet_27 rfl 2 rfl ?_
      refine r_iadd (pc := 28) dX12_isMet_28 ?_
      obtain ⟨g10, h⟩ := gd h
      obtain ⟨g11, h⟩ := gd h
      refine r_iaload (pc := 29) dX12_isMet_29 g10 g11 ?_
      refine r_bipush (pc := 30) dX12_isMet_30 kc_bipush_17 ?_
      refine r_icmp_ne (pc := 32) (tgt := 132) dX12_isMet_32 rfl (fun c => ?_) (fun c => ?_)
      · have h := ie h c
        refine r_iconst (pc := 132) dX12_isMet_132 kc_iconst_0 ?_
        cases h
        exact r_zret dX12_isMet_133 (Or.inl rfl)
      · have h := it h c
        refine r_aload_n (pc := 35) dX12_isMet_35 rfl 0 rfl ?_
        obtain ⟨a12, ha12, h⟩ := ob h
        refine r_getS (pc := 36) dX12_isMet_36 fgX12_80 rfl g5 ha12 ?_
        refine r_bipush (pc := 39) dX12_isMet_39 kc_bipush_40 ?_
        refine r_iload_n (pc := 41) dX12_isMet_41 rfl 1 rfl ?_
        refine r_imul (pc := 42) dX12_isMet_42 ?_
        refine r_iload_n (pc := 43) dX12_isMet_43 rfl 2 rfl ?_
        refine r_iadd (pc := 44) dX12_isMet_44 ?_
        obtain ⟨g13, h⟩ := gd h
        obtain ⟨g14, h⟩ := gd h
        refine r_iaload (pc := 45) dX12_isMet_45 g13 g14 ?_
        refine r_istore (pc := 46) (L' := [(4, vI (I a12 (Int32.toNatClampNeg (((40 : Int32) * x1) + x3)))), (0, vR (some t)), (1, vI x1), (3, vI x3)]) dX12_isMet_46 (by decide) rfl ?_
        refine r_iload (pc := 48) dX12_isMet_48 0 rfl ?_
        refine r_if_eq (pc := 50) (tgt := 62) dX12_isMet_50 rfl (fun c => ?_) (fun c => ?_)
        · have h := it h c
          refine r_sub [1, 2, 3] rfl ?_
          exact wX12_isMet_b62 h
        · have h := ie h c
          refine r_iload (pc := 53) dX12_isMet_53 0 rfl ?_
          refine r_aload_n (pc := 55) dX12_isMet_55 rfl 1 rfl ?_
          refine r_getI (pc := 56) dX12_isMet_56 fgX12_494 rfl g5 ?_
          refine r_icmp_ne (pc := 59) (tgt := 120) dX12_isMet_59 rfl (fun c => ?_) (fun c => ?_)
          · have h := ie h c
            refine r_aload_n (pc := 120) dX12_isMet_120 rfl 1 rfl ?_
            refine r_iload_n (pc := 121) dX12_isMet_121 rfl 2 rfl ?_
            refine r_iload_n (pc := 122) dX12_isMet_122 rfl 3 rfl ?_
            obtain ⟨r28, hc29, h⟩ := ob h
            refine r_callV1 (pc := 123) (av := [vI x1, vI x3]) (S := []) dX12_isMet_123 (kX12_endOf hc29) g5 rfl mkX12_528 mwX12_endOf rfl ⟨Nat.le_of_ble_eq_true rfl, Nat.le_of_ble_eq_true rfl⟩ (Nat.le_of_ble_eq_true rfl) ⟨Nat.le_refl _, Nat.le_refl _⟩ (fun b => b) ?_
            refine r_iconst (pc := 126) dX12_isMet_126 kc_iconst_1 ?_
            refine r_iadd (pc := 127) dX12_isMet_127 ?_
            refine r_istore_n (pc := 128) (L' := [(3, vI (r28 + (1 : Int32))), (4, vI (I a12 (Int32.toNatClampNeg (((40 : Int32) * x1) + x3)))), (0, vR (some t)), (1, vI x1)]) dX12_isMet_128 rfl (by decide) rfl ?_
            refine r_goto (pc := 129) (tgt := 9) dX12_isMet_129 rfl ?_
            refine r_sub [2, 3, 0] rfl ?_
            exact ih _ _ _ h
          · have h := it h c
            refine r_sub [1, 2, 3] rfl ?_
            exact wX12_isMet_b62 h
def fX12_isMet (σ : Shp) (I : Nat → Nat → Int32) (R : Nat → Nat → Option Nat) (t : Nat) (x1 : Int32) (x2 : Int32) : Option ((Nat → Nat → Int32) × (Int32)) :=
  if kdx σ t = 13 then
  (fX12_endOf σ I R t x1 x2).bind fun r2 =>
  let v4 := (r2 + (1 : Int32))
  fX12_isMet_l9 σ R t FUx I x1 v4
  else none
theorem kX12_isMet {G : Gx} {l : Launch} {σ : Shp} {I : Nat → Nat → Int32} {J : Nat → Nat → Int64} {D : Nat → Nat → UInt64} {R : Nat → Nat → Option Nat} {t : Nat} {x1 : Int32} {x2 : Int32} {I9 : Nat → Nat → Int32} {r9 : Int32} (h : fX12_isMet σ I R t x1 x2 = some (I9, r9)) : Con G l yX12_isMet cX12_isMet 5 (some .boolean) 2 45 [vR (some t), vI x1, vI x2] (σ, I, J, D, R) (σ, I9, J, D, R) (some (vI r9)) := by
  unfold fX12_isMet at h
  refine Con.mk (by decide +kernel) rfl (Nat.le_of_ble_eq_true rfl) ?_
  show WX12_isMet G l σ (σ, I9, J, D, R) (some (vI r9)) (σ, I, J, D, R) 0 _ []
  refine r_aload_n (pc := 0) dX12_isMet_0 rfl 0 rfl ?_
  refine r_iload_n (pc := 1) dX12_isMet_1 rfl 1 rfl ?_
  refine r_iload_n (pc := 2) dX12_isMet_2 rfl 2 rfl ?_
  obtain ⟨g1, h⟩ := gd h
  obtain ⟨r2, hc3, h⟩ := ob h
  refine r_callV1 (pc := 3) (av := [vI x1, vI x2]) (S := []) dX12_isMet_3 (kX12_endOf hc3) g1 rfl mkX12_528 mwX12_endOf rfl ⟨Nat.le_of_ble_eq_true rfl, Nat.le_of_ble_eq_true rfl⟩ (Nat.le_of_ble_eq_true rfl) ⟨Nat.le_refl _, Nat.le_refl _⟩ (fun b => b) ?_
  refine r_iconst (pc := 6) dX12_isMet_6 kc_iconst_1 ?_
  refine r_iadd (pc := 7) dX12_isMet_7 ?_
  refine r_istore_n (pc := 8) (L' := [(3, vI (r2 + (1 : Int32))), (0, vR (some t)), (1, vI x1), (2, vI x2)]) dX12_isMet_8 rfl (by decide) rfl ?_
  refine r_sub [1, 2, 0] rfl ?_
  exact wX12_isMet_l9 _ _ _ _ h
abbrev WX12_again (G : Gx) (l : Launch) (σ0 : Shp) (X1 : Stt) (rv : Option SV) : Stt → Nat → List (Nat × SV) → List SV → Prop := Wm G l yX12_again cX12_again 3 none (fun _ => True) (rmx 1 20 σ0 X1.1) σ0 (Qmx G σ0 X1 rv)
def fX12_again (σ : Shp) (I : Nat → Nat → Int32) (R : Nat → Nat → Option Nat) (t : Nat) (x1 : Int32) : Option ((Nat → Nat → Int32)) :=
  if kdx σ t = 13 then
  ((R t 44) : Option Nat).bind fun a2 =>
  if kdx σ a2 = 20 then
  if ¬ (x1 < 0 ∨ lnx σ a2 ≤ Int32.toNatClampNeg x1) then
  ((R t 45) : Option Nat).bind fun a5 =>
  if kdx σ a5 = 20 then
  if ¬ (x1 < 0 ∨ lnx σ a5 ≤ Int32.toNatClampNeg x1) then
  let v8 := (((40 : Int32) * (I a2 (Int32.toNatClampNeg x1))) + (I a5 (Int32.toNatClampNeg x1)))
  ((R t 43) : Option Nat).bind fun a9 =>
  if kdx σ a9 = 20 then
  if ¬ (x1 < 0 ∨ lnx σ a9 ≤ Int32.toNatClampNeg x1) then
  if (I a9 (Int32.toNatClampNeg x1)) = (15 : Int32) then
    ((R t 47) : Option Nat).bind fun a12 =>
    if kdx σ a12 = 20 then
    if ¬ (x1 < 0 ∨ lnx σ a12 ≤ Int32.toNatClampNeg x1) then
    ((R t 35) : Option Nat).bind fun a15 =>
    if kdx σ a15 = 20 then
    if ¬ (v8 < 0 ∨ lnx σ a15 ≤ Int32.toNatClampNeg v8) then
    if (I a15 (Int32.toNatClampNeg v8)) ≤ (I a12 (Int32.toNatClampNeg x1)) then
      some I
    else
      (fX12_isStep σ I t).bind fun (I18, r19) =>
      if r19 = 0 then
        some I18
      else
        let I21 := u2 I18 a12 (Int32.toNatClampNeg x1) ((I18 a12 (Int32.toNatClampNeg x1)) + (1 : Int32))
        let I22 := u2 I21 t 42 ((I21 t 42) + (1 : Int32))
        let I23 := u2 I22 t 59 (0 : Int32)
        let I24 := u2 I23 t 57 (I23 a2 (Int32.toNatClampNeg x1))
        let I25 := u2 I24 t 58 ((I24 a5 (Int32.toNatClampNeg x1)) + (1 : Int32))
        some I25
    else none
    else none
    else none
    else none
  else
    some I
  else none
  else none
  else none
  else none
  else none
  else none
  else none
theorem kX12_again {G : Gx} {l : Launch} {σ : Shp} {I : Nat → Nat → Int32} {J : Nat → Nat → Int64} {D : Nat → Nat → UInt64} {R : Nat → Nat → Option Nat} {t : Nat} {x1 : Int32} {I9 : Nat → Nat → Int32} (h : fX12_again σ I R t x1 = some I9) : Con G l yX12_again cX12_again 3 none 1 20 [vR (some t), vI x1] (σ, I, J, D, R) (σ, I9, J, D, R) none := by
  unfold fX12_again at h
  refine Con.mk (by decide +kernel) rfl (Nat.le_of_ble_eq_true rfl) ?_
  show WX12_again G l σ (σ, I9, J, D, R) none (σ, I, J, D, R) 0 _ []
  refine r_bipush (pc := 0) dX12_again_0 kc_bipush_40 ?_
  refine r_aload_n (pc := 2) dX12_again_2 rfl 0 rfl ?_
  obtain ⟨g1, h⟩ := gd h
  obtain ⟨a2, ha2, h⟩ := ob h
  refine r_getS (pc := 3) dX12_again_3 fgX12_104 rfl g1 ha2 ?_
  refine r_iload_n (pc := 6) dX12_again_6 rfl 1 rfl ?_
  obtain ⟨g3, h⟩ := gd h
  obtain ⟨g4, h⟩ := gd h
  refine r_iaload (pc := 7) dX12_again_7 g3 g4 ?_
  refine r_imul (pc := 8) dX12_again_8 ?_
  refine r_aload_n (pc := 9) dX12_again_9 rfl 0 rfl ?_
  obtain ⟨a5, ha5, h⟩ := ob h
  refine r_getS (pc := 10) dX12_again_10 fgX12_107 rfl g1 ha5 ?_
  refine r_iload_n (pc := 13) dX12_again_13 rfl 1 rfl ?_
  obtain ⟨g6, h⟩ := gd h
  obtain ⟨g7, h⟩ := gd h
  refine r_iaload (pc := 14) dX12_again_14 g6 g7 ?_
  refine r_iadd (pc := 15) dX12_again_15 ?_
  refine r_istore_n (pc := 16) (L' := [(2, vI (((40 : Int32) * (I a2 (Int32.toNatClampNeg x1))) + (I a5 (Int32.toNatClampNeg x1)))), (0, vR (some t)), (1, vI x1)]) dX12_again_16 rfl (by decide) rfl ?_
  refine r_aload_n (pc := 17) dX12_again_17 rfl 1 rfl ?_
  obtain ⟨a9, ha9, h⟩ := ob h
  refine r_getS (pc := 18) dX12_again_18 fgX12_101 rfl g1 ha9 ?_
  refine r_iload_n (pc := 21) dX12_again_21 rfl 2 rfl ?_
  obtain ⟨g10, h⟩ := gd h
  obtain ⟨g11, h⟩ := gd h
  refine r_iaload (pc := 22) dX12_again_22 g10 g11 ?_
  refine r_bipush (pc := 23) dX12_again_23 kc_bipush_15 ?_
  refine r_icmp_ne (pc := 25) (tgt := 50) dX12_again_25 rfl (fun c => ?_) (fun c => ?_)
  · have h := ie h c
    cases h
    exact r_vret dX12_again_50
  · have h := it h c
    refine r_aload_n (pc := 28) dX12_again_28 rfl 1 rfl ?_
    obtain ⟨a12, ha12, h⟩ := ob h
    refine r_getS (pc := 29) dX12_again_29 fgX12_113 rfl g1 ha12 ?_
    refine r_iload_n (pc := 32) dX12_again_32 rfl 2 rfl ?_
    obtain ⟨g13, h⟩ := gd h
    obtain ⟨g14, h⟩ := gd h
    refine r_iaload (pc := 33) dX12_again_33 g13 g14 ?_
    refine r_aload_n (pc := 34) dX12_again_34 rfl 1 rfl ?_
    obtain ⟨a15, ha15, h⟩ := ob h
    refine r_getS (pc := 35) dX12_again_35 fgX12_80 rfl g1 ha15 ?_
    refine r_iload_n (pc := 38) dX12_again_38 rfl 0 rfl ?_
    obtain ⟨g16, h⟩ := gd h
    obtain ⟨g17, h⟩ := gd h
    refine r_iaload (pc := 39) dX12_again_39 g16 g17 ?_
    refine r_icmp_ge (pc := 40) (tgt := 50) dX12_again_40 rfl (fun c => ?_) (fun c => ?_)
    · have h := it h c
      cases h
      exact r_vret dX12_again_50
    · have h := ie h c
      refine r_aload_n (pc := 43) dX12_again_43 rfl 1 rfl ?_
      obtain ⟨⟨I18, r19⟩, hc20, h⟩ := ob h
      refine r_callV1 (pc := 44) (av := []) (S := []) dX12_again_44 (kX12_isStep hc20) g1 rfl mkX12_549 mwX12_isStep rfl ⟨Nat.le_of_ble_eq_true rfl, Nat.le_of_ble_eq_true rfl⟩ (Nat.le_of_ble_eq_true rfl) ⟨Nat.le_refl _, Nat.le_refl _⟩ (fun b => b) ?_
      refine r_ifne (pc := 47) (tgt := 51) dX12_again_47 rfl (fun c => ?_) (fun c => ?_)
      · have h := ie h c
        refine r_aload_n (pc := 51) dX12_again_51 rfl 1 rfl ?_
        refine r_getS (pc := 52) dX12_again_52 fgX12_113 rfl g1 ha12 ?_
        refine r_iload_n (pc := 55) dX12_again_55 rfl 2 rfl ?_
        refine r_dup2 (pc := 56) dX12_again_56 rfl rfl ?_
        refine r_iaload (pc := 57) dX12_again_57 g13 g14 ?_
        refine r_iconst (pc := 58) dX12_again_58 kc_iconst_1 ?_
        refine r_iadd (pc := 59) dX12_again_59 ?_
        refine r_iastore (pc := 60) dX12_again_60 g13 g14 ?_
        refine r_aload_n (pc := 61) dX12_again_61 rfl 1 rfl ?_
        refine r_dup (pc := 62) dX12_again_62 rfl ?_
        refine r_getI (pc := 63) dX12_again_63 fgX12_512 rfl g1 ?_
        refine r_iconst (pc := 66) dX12_again_66 kc_iconst_1 ?_
        refine r_iadd (pc := 67) dX12_again_67 ?_
        refine r_putI (pc := 68) dX12_again_68 fwX12_512 rfl g1 ?_
        refine r_aload_n (pc := 71) dX12_again_71 rfl 1 rfl ?_
        refine r_iconst (pc := 72) dX12_again_72 kc_iconst_0 ?_
        refine r_putI (pc := 73) dX12_again_73 fwX12_491 rfl g1 ?_
        refine r_aload_n (pc := 76) dX12_again_76 rfl 1 rfl ?_
        refine r_aload_n (pc := 77) dX12_again_77 rfl 1 rfl ?_
        refine r_getS (pc := 78) dX12_again_78 fgX12_104 rfl g1 ha2 ?_
        refine r_iload_n (pc := 81) dX12_again_81 rfl 2 rfl ?_
        refine r_iaload (pc := 82) dX12_again_82 g3 g4 ?_
        refine r_putI (pc := 83) dX12_again_83 fwX12_515 rfl g1 ?_
        refine r_aload_n (pc := 86) dX12_again_86 rfl 1 rfl ?_
        refine r_aload_n (pc := 87) dX12_again_87 rfl 1 rfl ?_
        refine r_getS (pc := 88) dX12_again_88 fgX12_107 rfl g1 ha5 ?_
        refine r_iload_n (pc := 91) dX12_again_91 rfl 2 rfl ?_
        refine r_iaload (pc := 92) dX12_again_92 g6 g7 ?_
        refine r_iconst (pc := 93) dX12_again_93 kc_iconst_1 ?_
        refine r_iadd (pc := 94) dX12_again_94 ?_
        refine r_putI (pc := 95) dX12_again_95 fwX12_500 rfl g1 ?_
        cases h
        exact r_vret dX12_again_98
      · have h := it h c
        cases h
        exact r_vret dX12_again_50
abbrev WX12_leave (G : Gx) (l : Launch) (σ0 : Shp) (X1 : Stt) (rv : Option SV) : Stt → Nat → List (Nat × SV) → List SV → Prop := Wm G l yX12_leave cX12_leave 4 none (fun _ => True) (rmx 3 69 σ0 X1.1) σ0 (Qmx G σ0 X1 rv)
def fX12_leave_b47  (σ : Shp) (R : Nat → Nat → Option Nat) (t : Nat) (I : Nat → Nat → Int32) (x1 : Int32) (x3 : Int32) : Option ((Nat → Nat → Int32)) :=
  if kdx σ t = 13 then
  ((R t 33) : Option Nat).bind fun a10 =>
  if kdx σ a10 = 20 then
  if ¬ (x1 < 0 ∨ lnx σ a10 ≤ Int32.toNatClampNeg x1) then
  if (I a10 (Int32.toNatClampNeg x1)) ≤ x3 then
    some I
  else
    ((R t 34) : Option Nat).bind fun a13 =>
    if kdx σ a13 = 20 then
    if ¬ ((((40 : Int32) * x1) + x3) < 0 ∨ lnx σ a13 ≤ Int32.toNatClampNeg (((40 : Int32) * x1) + x3)) then
    if (I a13 (Int32.toNatClampNeg (((40 : Int32) * x1) + x3))) = (18 : Int32) then
      (fX12_behind σ I R t x1 x3).bind fun I16 =>
      some I16
    else
      some I
    else none
    else none
  else none
  else none
  else none
theorem wX12_leave_b47 {G : Gx} {l : Launch} {σ : Shp} {I : Nat → Nat → Int32} {J : Nat → Nat → Int64} {D : Nat → Nat → UInt64} {R : Nat → Nat → Option Nat} {t : Nat} {I9 : Nat → Nat → Int32} {x1 : Int32} {x3 : Int32} (h : fX12_leave_b47 σ R t I x1 x3 = some I9) : WX12_leave G l σ (σ, I9, J, D, R) none (σ, I, J, D, R) 47 [(0, vR (some t)), (1, vI x1), (3, vI x3)] [] := by
  unfold fX12_leave_b47 at h
  refine r_iload_n (pc := 47) dX12_leave_47 rfl 2 rfl ?_
  refine r_aload_n (pc := 48) dX12_leave_48 rfl 0 rfl ?_
  obtain ⟨g9, h⟩ := gd h
  obtain ⟨a10, ha10, h⟩ := ob h
  refine r_getS (pc := 49) dX12_leave_49 fgX12_74 rfl g9 ha10 ?_
  refine r_iload_n (pc := 52) dX12_leave_52 rfl 1 rfl ?_
  obtain ⟨g11, h⟩ := gd h
  obtain ⟨g12, h⟩ := gd h
  refine r_iaload (pc := 53) dX12_leave_53 g11 g12 ?_
  refine r_icmp_ge (pc := 54) (tgt := 79) dX12_leave_54 rfl (fun c => ?_) (fun c => ?_)
  · have h := it h c
    cases h
    exact r_vret dX12_leave_79
  · have h := ie h c
    refine r_aload_n (pc := 57) dX12_leave_57 rfl 0 rfl ?_
    obtain ⟨a13, ha13, h⟩ := ob h
    refine r_getS (pc := 58) dX12_leave_58 fgX12_77 rfl g9 ha13 ?_
    refine r_bipush (pc := 61) dX12_leave_61 kc_bipush_40 ?_
    refine r_iload_n (pc := 63) dX12_leave_63 rfl 1 rfl ?_
    refine r_imul (pc := 64) dX12_leave_64 ?_
    refine r_iload_n (pc := 65) dX12_leave_65 rfl 2 rfl ?_
    refine r_iadd (pc := 66) dX12_leave_66 ?_
    obtain ⟨g14, h⟩ := gd h
    obtain ⟨g15, h⟩ := gd h
    refine r_iaload (pc := 67) dX12_leave_67 g14 g15 ?_
    refine r_bipush (pc := 68) dX12_leave_68 kc_bipush_18 ?_
    refine r_icmp_ne (pc := 70) (tgt := 79) dX12_leave_70 rfl (fun c => ?_) (fun c => ?_)
    · have h := ie h c
      cases h
      exact r_vret dX12_leave_79
    · have h := it h c
      refine r_aload_n (pc := 73) dX12_leave_73 rfl 0 rfl ?_
      refine r_iload_n (pc := 74) dX12_leave_74 rfl 1 rfl ?_
      refine r_iload_n (pc := 75) dX12_leave_75 rfl 2 rfl ?_
      obtain ⟨I16, hc17, h⟩ := ob h
      refine r_callV0 (pc := 76) (av := [vI x1, vI x3]) (S := []) dX12_leave_76 (kX12_behind hc17) g9 rfl mkX12_576 mwX12_behind rfl ⟨Nat.le_of_ble_eq_true rfl, Nat.le_of_ble_eq_true rfl⟩ (Nat.le_of_ble_eq_true rfl) ⟨Nat.le_refl _, Nat.le_refl _⟩ (fun b => b) ?_
      cases h
      exact r_vret dX12_leave_79
def fX12_leave_l9  (σ : Shp) (R : Nat → Nat → Option Nat) (t : Nat) : Nat → (Nat → Nat → Int32) → (Int32) → (Int32) → Option ((Nat → Nat → Int32))
  | 0, _, _, _ => none
  | n + 1, I, x1, x3 =>
    if kdx σ t = 13 then
    ((R t 33) : Option Nat).bind fun a6 =>
    if kdx σ a6 = 20 then
    if ¬ (x1 < 0 ∨ lnx σ a6 ≤ Int32.toNatClampNeg x1) then
    if (I a6 (Int32.toNatClampNeg x1)) ≤ x3 then
      fX12_leave_b47 σ R t I x1 x3
    else
      ((R t 34) : Option Nat).bind fun a18 =>
      if kdx σ a18 = 20 then
      if ¬ ((((40 : Int32) * x1) + x3) < 0 ∨ lnx σ a18 ≤ Int32.toNatClampNeg (((40 : Int32) * x1) + x3)) then
      if (I a18 (Int32.toNatClampNeg (((40 : Int32) * x1) + x3))) = (17 : Int32) then
        (fX12_endOf σ I R t x1 x3).bind fun r21 =>
        let v23 := (r21 + (1 : Int32))
        fX12_leave_l9 σ R t n I x1 v23
      else
        fX12_leave_b47 σ R t I x1 x3
      else none
      else none
    else none
    else none
    else none
theorem wX12_leave_l9 {G : Gx} {l : Launch} {σ : Shp} {J : Nat → Nat → Int64} {D : Nat → Nat → UInt64} {R : Nat → Nat → Option Nat} {t : Nat} {I9 : Nat → Nat → Int32} : ∀ (n : Nat) (I : Nat → Nat → Int32) (x1 : Int32) (x3 : Int32), fX12_leave_l9 σ R t n I x1 x3 = some I9 → WX12_leave G l σ (σ, I9, J, D, R) none (σ, I, J, D, R) 9 [(0, vR (some t)), (1, vI x1), (3, vI x3)] [] := by
  intro n
  induction n with
  | zero =>
    intro I x1 x3 h
    have h : none = some _ := h
    cases h
  | succ n ih =>
    intro I x1 x3 h
    rw [fX12_leave_l9] at h
    refine r_iload_n (pc := 9) dX12_leave_9 rfl 2 rfl ?_
    refine r_aload_n (pc := 10) dX12_leave_10 rfl 0 rfl ?_
    obtain ⟨g5, h⟩ := gd h
    obtain ⟨a6, ha6, h⟩ := ob h
    refine r_getS (pc := 11) dX12_leave_11 fgX12_74 rfl g5 ha6 ?_
    refine r_iload_n (pc := 14) dX12_leave_14 rfl 1 rfl ?_
    obtain ⟨g7, h⟩ := gd h
    obtain ⟨g8, h⟩ := gd h
    refine r_iaload (pc := 15) dX12_leave_15 g7 g8 ?_
    refine r_icmp_ge (pc := 16) (tgt := 47) dX12_leave_16 rfl (fun c => ?_) (fun c => ?_)
    · have h := it h c
      refine r_sub [0, 1, 2] rfl ?_
      exact wX12_leave_b47 h
    · have h := ie h c
      refine r_aload_n (pc := 19) dX12_leave_19 rfl 0 rfl ?_
      obtain ⟨a18, ha18, h⟩ := ob h
      refine r_getS (pc := 20) dX12_leave_20 fgX12_77 rfl g5 ha18 ?_
      refine r_bipush (pc := 23) dX12_leave_23 kc_bipush_40 ?_
      refine r_iload_n (pc := 25) dX12_leave_25 rfl 1 rfl ?_
      refine r_imul (pc := 26) dX12_leave_26 ?_
      refine r_iload_n (pc := 27) dX12_leave_27 rfl 2 rfl ?_
      refine r_iadd (pc := 28) dX12_leave_28 ?_
      obtain ⟨g19, h⟩ := gd h
      obtain ⟨g20, h⟩ := gd h
      refine r_iaload (pc := 29) dX12_leave_29 g19 g20 ?_
      refine r_bipush (pc := 30) dX12_leave_30 kc_bipush_17 ?_
      refine r_icmp_ne (pc := 32) (tgt := 47) dX12_leave_32 rfl (fun c => ?_) (fun c => ?_)
      · have h := ie h c
        refine r_sub [0, 1, 2] rfl ?_
        exact wX12_leave_b47 h
      · have h := it h c
        refine r_aload_n (pc := 35) dX12_leave_35 rfl 0 rfl ?_
        refine r_iload_n (pc := 36) dX12_leave_36 rfl 1 rfl ?_
        refine r_iload_n (pc := 37) dX12_leave_37 rfl 2 rfl ?_
        obtain ⟨r21, hc22, h⟩ := ob h
        refine r_callV1 (pc := 38) (av := [vI x1, vI x3]) (S := []) dX12_leave_38 (kX12_endOf hc22) g5 rfl mkX12_528 mwX12_endOf rfl ⟨Nat.le_of_ble_eq_true rfl, Nat.le_of_ble_eq_true rfl⟩ (Nat.le_of_ble_eq_true rfl) ⟨Nat.le_refl _, Nat.le_refl _⟩ (fun b => b) ?_
        refine r_iconst (pc := 41) dX12_leave_41 kc_iconst_1 ?_
        refine r_iadd (pc := 42) dX12_leave_42 ?_
        refine r_istore_n (pc := 43) (L' := [(3, vI (r21 + (1 : Int32))), (0, vR (some t)), (1, vI x1)]) dX12_leave_43 rfl (by decide) rfl ?_
        refine r_goto (pc := 44) (tgt := 9) dX12_leave_44 rfl ?_
        refine r_sub [1, 2, 0] rfl ?_
        exact ih _ _ _ h
def fX12_leave (σ : Shp) (I : Nat → Nat → Int32) (R : Nat → Nat → Option Nat) (t : Nat) (x1 : Int32) (x2 : Int32) : Option ((Nat → Nat → Int32)) :=
  if kdx σ t = 13 then
  (fX12_endOf σ I R t x1 x2).bind fun r2 =>
  let v4 := (r2 + (1 : Int32))
  fX12_leave_l9 σ R t FUx I x1 v4
  else none
theorem kX12_leave {G : Gx} {l : Launch} {σ : Shp} {I : Nat → Nat → Int32} {J : Nat → Nat → Int64} {D : Nat → Nat → UInt64} {R : Nat → Nat → Option Nat} {t : Nat} {x1 : Int32} {x2 : Int32} {I9 : Nat → Nat → Int32} (h : fX12_leave σ I R t x1 x2 = some I9) : Con G l yX12_leave cX12_leave 4 none 3 69 [vR (some t), vI x1, vI x2] (σ, I, J, D, R) (σ, I9, J, D, R) none := by
  unfold fX12_leave at h
  refine Con.mk (by decide +kernel) rfl (Nat.le_of_ble_eq_true rfl) ?_
  show WX12_leave G l σ (σ, I9, J, D, R) none (σ, I, J, D, R) 0 _ []
  refine r_aload_n (pc := 0) dX12_leave_0 rfl 0 rfl ?_
  refine r_iload_n (pc := 1) dX12_leave_1 rfl 1 rfl ?_
  refine r_iload_n (pc := 2) dX12_leave_2 rfl 2 rfl ?_
  obtain ⟨g1, h⟩ := gd h
  obtain ⟨r2, hc3, h⟩ := ob h
  refine r_callV1 (pc := 3) (av := [vI x1, vI x2]) (S := []) dX12_leave_3 (kX12_endOf hc3) g1 rfl mkX12_528 mwX12_endOf rfl ⟨Nat.le_of_ble_eq_true rfl, Nat.le_of_ble_eq_true rfl⟩ (Nat.le_of_ble_eq_true rfl) ⟨Nat.le_refl _, Nat.le_refl _⟩ (fun b => b) ?_
  refine r_iconst (pc := 6) dX12_leave_6 kc_iconst_1 ?_
  refine r_iadd (pc := 7) dX12_leave_7 ?_
  refine r_istore_n (pc := 8) (L' := [(3, vI (r2 + (1 : Int32))), (0, vR (some t)), (1, vI x1), (2, vI x2)]) dX12_leave_8 rfl (by decide) rfl ?_
  refine r_sub [1, 2, 0] rfl ?_
  exact wX12_leave_l9 _ _ _ _ h
abbrev WX12_unwind (G : Gx) (l : Launch) (σ0 : Shp) (X1 : Stt) (rv : Option SV) : Stt → Nat → List (Nat × SV) → List SV → Prop := Wm G l yX12_unwind cX12_unwind 4 none (fun _ => True) (rmx 4 92 σ0 X1.1) σ0 (Qmx G σ0 X1 rv)
def fX12_unwind_b133  (σ : Shp) (R : Nat → Nat → Option Nat) (t : Nat) (I : Nat → Nat → Int32) (J : Nat → Nat → Int64) (x1 : Int32) : Option ((Nat → Nat → Int32) × (Nat → Nat → Int64)) :=
  if kdx σ t = 13 then
  if (I t 59) = (1 : Int32) then
    ((R t 46) : Option Nat).bind fun a59 =>
    if kdx σ a59 = 20 then
    if ¬ (x1 < 0 ∨ lnx σ a59 ≤ Int32.toNatClampNeg x1) then
    (fX12_undoTo σ I J R t (I a59 (Int32.toNatClampNeg x1))).bind fun (I62, J63) =>
    (fX12_again σ I62 R t x1).bind fun I65 =>
    some (I65, J63)
    else none
    else none
  else
    some (I, J)
  else none
theorem wX12_unwind_b133 {G : Gx} {l : Launch} {σ : Shp} {I : Nat → Nat → Int32} {J : Nat → Nat → Int64} {D : Nat → Nat → UInt64} {R : Nat → Nat → Option Nat} {t : Nat} {I9 : Nat → Nat → Int32} {J9 : Nat → Nat → Int64} {x1 : Int32} (h : fX12_unwind_b133 σ R t I J x1 = some (I9, J9)) : WX12_unwind G l σ (σ, I9, J9, D, R) none (σ, I, J, D, R) 133 [(0, vR (some t)), (1, vI x1)] [] := by
  unfold fX12_unwind_b133 at h
  refine r_aload_n (pc := 133) dX12_unwind_133 rfl 0 rfl ?_
  obtain ⟨g58, h⟩ := gd h
  refine r_getI (pc := 134) dX12_unwind_134 fgX12_491 rfl g58 ?_
  refine r_iconst (pc := 137) dX12_unwind_137 kc_iconst_1 ?_
  refine r_icmp_ne (pc := 138) (tgt := 274) dX12_unwind_138 rfl (fun c => ?_) (fun c => ?_)
  · have h := ie h c
    cases h
    exact r_vret dX12_unwind_274
  · have h := it h c
    refine r_aload_n (pc := 141) dX12_unwind_141 rfl 0 rfl ?_
    refine r_aload_n (pc := 142) dX12_unwind_142 rfl 0 rfl ?_
    obtain ⟨a59, ha59, h⟩ := ob h
    refine r_getS (pc := 143) dX12_unwind_143 fgX12_110 rfl g58 ha59 ?_
    refine r_iload_n (pc := 146) dX12_unwind_146 rfl 1 rfl ?_
    obtain ⟨g60, h⟩ := gd h
    obtain ⟨g61, h⟩ := gd h
    refine r_iaload (pc := 147) dX12_unwind_147 g60 g61 ?_
    obtain ⟨⟨I62, J63⟩, hc64, h⟩ := ob h
    refine r_callV0 (pc := 148) (av := [vI (I a59 (Int32.toNatClampNeg x1))]) (S := []) dX12_unwind_148 (kX12_undoTo hc64) g58 rfl mkX12_582 mwX12_undoTo rfl ⟨Nat.le_of_ble_eq_true rfl, Nat.le_of_ble_eq_true rfl⟩ (Nat.le_of_ble_eq_true rfl) ⟨Nat.le_refl _, Nat.le_refl _⟩ (fun b => b) ?_
    refine r_aload_n (pc := 151) dX12_unwind_151 rfl 0 rfl ?_
    refine r_iload_n (pc := 152) dX12_unwind_152 rfl 1 rfl ?_
    obtain ⟨I65, hc66, h⟩ := ob h
    refine r_callV0 (pc := 153) (av := [vI x1]) (S := []) dX12_unwind_153 (kX12_again hc66) g58 rfl mkX12_585 mwX12_again rfl ⟨Nat.le_of_ble_eq_true rfl, Nat.le_of_ble_eq_true rfl⟩ (Nat.le_of_ble_eq_true rfl) ⟨Nat.le_refl _, Nat.le_refl _⟩ (fun b => b) ?_
    refine r_goto (pc := 156) (tgt := 274) dX12_unwind_156 rfl ?_
    cases h
    exact r_vret dX12_unwind_274
def fX12_unwind (σ : Shp) (I : Nat → Nat → Int32) (J : Nat → Nat → Int64) (R : Nat → Nat → Option Nat) (t : Nat)  : Option ((Nat → Nat → Int32) × (Nat → Nat → Int64)) :=
  if kdx σ t = 13 then
  let I2 := u2 I t 42 ((I t 42) - (1 : Int32))
  let v3 := (I2 t 42)
  ((R t 44) : Option Nat).bind fun a4 =>
  if kdx σ a4 = 20 then
  if ¬ (v3 < 0 ∨ lnx σ a4 ≤ Int32.toNatClampNeg v3) then
  let v7 := (I2 a4 (Int32.toNatClampNeg v3))
  ((R t 45) : Option Nat).bind fun a8 =>
  if kdx σ a8 = 20 then
  if ¬ (v3 < 0 ∨ lnx σ a8 ≤ Int32.toNatClampNeg v3) then
  let v11 := (I2 a8 (Int32.toNatClampNeg v3))
  (fX12_giveBack σ I2 J R t v3).bind fun (I12, J13) =>
  ((R t 43) : Option Nat).bind fun a15 =>
  if kdx σ a15 = 20 then
  if ¬ (v3 < 0 ∨ lnx σ a15 ≤ Int32.toNatClampNeg v3) then
  if (I12 a15 (Int32.toNatClampNeg v3)) = (10 : Int32) then
    let I67 := u2 I12 t 66 ((I12 t 66) - (1 : Int32))
    some (I67, J13)
  else
  if (I12 a15 (Int32.toNatClampNeg v3)) = (11 : Int32) then
    some (I12, J13)
  else
  if (I12 a15 (Int32.toNatClampNeg v3)) = (12 : Int32) then
    some (I12, J13)
  else
  if (I12 a15 (Int32.toNatClampNeg v3)) = (13 : Int32) then
    some (I12, J13)
  else
  if (I12 a15 (Int32.toNatClampNeg v3)) = (14 : Int32) then
    fX12_unwind_b133 σ R t I12 J13 v3
  else
  if (I12 a15 (Int32.toNatClampNeg v3)) = (15 : Int32) then
    fX12_unwind_b133 σ R t I12 J13 v3
  else
  if (I12 a15 (Int32.toNatClampNeg v3)) = (16 : Int32) then
    if (I12 t 59) = (1 : Int32) then
      (fX12_isMet σ I12 R t v7 v11).bind fun (I53, r54) =>
      if r54 = 0 then
        if (I53 t 59) = (3 : Int32) then
          some (I53, J13)
        else
          (fX12_leave σ I53 R t v7 v11).bind fun I56 =>
          some (I56, J13)
      else
        some (I53, J13)
    else
      if (I12 t 59) = (3 : Int32) then
        some (I12, J13)
      else
        (fX12_leave σ I12 R t v7 v11).bind fun I51 =>
        some (I51, J13)
  else
  if (I12 a15 (Int32.toNatClampNeg v3)) = (17 : Int32) then
    if (I12 t 59) = (1 : Int32) then
      ((R t 49) : Option Nat).bind fun a45 =>
      if kdx σ a45 = 20 then
      if ¬ (v3 < 0 ∨ lnx σ a45 ≤ Int32.toNatClampNeg v3) then
      let I48 := u2 I12 t 63 (I12 a45 (Int32.toNatClampNeg v3))
      if (I48 t 59) = (3 : Int32) then
        some (I48, J13)
      else
        (fX12_leave σ I48 R t v7 v11).bind fun I49 =>
        some (I49, J13)
      else none
      else none
    else
      let I42 := u2 I12 t 63 (I12 t 63)
      if (I42 t 59) = (3 : Int32) then
        some (I42, J13)
      else
        (fX12_leave σ I42 R t v7 v11).bind fun I43 =>
        some (I43, J13)
  else
  if (I12 a15 (Int32.toNatClampNeg v3)) = (18 : Int32) then
    if (I12 t 59) = (1 : Int32) then
      ((R t 48) : Option Nat).bind fun a34 =>
      if kdx σ a34 = 20 then
      if ¬ (v3 < 0 ∨ lnx σ a34 ≤ Int32.toNatClampNeg v3) then
      if (I12 a34 (Int32.toNatClampNeg v3)) = (1 : Int32) then
        ((R t 49) : Option Nat).bind fun a38 =>
        if kdx σ a38 = 20 then
        if ¬ (v3 < 0 ∨ lnx σ a38 ≤ Int32.toNatClampNeg v3) then
        let I41 := u2 I12 t 63 (I12 a38 (Int32.toNatClampNeg v3))
        some (I41, J13)
        else none
        else none
      else
        let I37 := u2 I12 t 63 (I12 t 63)
        some (I37, J13)
      else none
      else none
    else
      let I33 := u2 I12 t 63 (I12 t 63)
      some (I33, J13)
  else
  if (I12 a15 (Int32.toNatClampNeg v3)) = (19 : Int32) then
    some (I12, J13)
  else
  if (I12 a15 (Int32.toNatClampNeg v3)) = (20 : Int32) then
    some (I12, J13)
  else
  if (I12 a15 (Int32.toNatClampNeg v3)) = (21 : Int32) then
    if (I12 t 59) = (1 : Int32) then
      (fX12_undoTo σ I12 J13 R t (0 : Int32)).bind fun (I30, J31) =>
      some (I30, J31)
    else
      some (I12, J13)
  else
  some (I12, J13)
  else none
  else none
  else none
  else none
  else none
  else none
  else none
theorem kX12_unwind {G : Gx} {l : Launch} {σ : Shp} {I : Nat → Nat → Int32} {J : Nat → Nat → Int64} {D : Nat → Nat → UInt64} {R : Nat → Nat → Option Nat} {t : Nat}  {I9 : Nat → Nat → Int32} {J9 : Nat → Nat → Int64} (h : fX12_unwind σ I J R t = some (I9, J9)) : Con G l yX12_unwind cX12_unwind 4 none 4 92 [vR (some t)] (σ, I, J, D, R) (σ, I9, J9, D, R) none := by
  unfold fX12_unwind at h
  refine Con.mk (by decide +kernel) rfl (Nat.le_of_ble_eq_true rfl) ?_
  show WX12_unwind G l σ (σ, I9, J9, D, R) none (σ, I, J, D, R) 0 _ []
  refine r_aload_n (pc := 0) dX12_unwind_0 rfl 0 rfl ?_
  refine r_dup (pc := 1) dX12_unwind_1 rfl ?_
  obtain ⟨g1, h⟩ := gd h
  refine r_getI (pc := 2) dX12_unwind_2 fgX12_512 rfl g1 ?_
  refine r_iconst (pc := 5) dX12_unwind_5 kc_iconst_1 ?_
  refine r_isub (pc := 6) dX12_unwind_6 ?_
  refine r_putI (pc := 7) dX12_unwind_7 fwX12_512 rfl g1 ?_
  refine r_aload_n (pc := 10) dX12_unwind_10 rfl 0 rfl ?_
  refine r_getI (pc := 11) dX12_unwind_11 fgX12_512 rfl g1 ?_
  refine r_istore_n (pc := 14) (L' := [(1, vI ((u2 I t 42 ((I t 42) - (1 : Int32))) t 42)), (0, vR (some t))]) dX12_unwind_14 rfl (by decide) rfl ?_
  refine r_aload_n (pc := 15) dX12_unwind_15 rfl 1 rfl ?_
  obtain ⟨a4, ha4, h⟩ := ob h
  refine r_getS (pc := 16) dX12_unwind_16 fgX12_104 rfl g1 ha4 ?_
  refine r_iload_n (pc := 19) dX12_unwind_19 rfl 0 rfl ?_
  obtain ⟨g5, h⟩ := gd h
  obtain ⟨g6, h⟩ := gd h
  refine r_iaload (pc := 20) dX12_unwind_20 g5 g6 ?_
  refine r_istore_n (pc := 21) (L' := [(2, vI ((u2 I t 42 ((I t 42) - (1 : Int32))) a4 (Int32.toNatClampNeg ((u2 I t 42 ((I t 42) - (1 : Int32))) t 42)))), (1, vI ((u2 I t 42 ((I t 42) - (1 : Int32))) t 42)), (0, vR (some t))]) dX12_unwind_21 rfl (by decide) rfl ?_
  refine r_aload_n (pc := 22) dX12_unwind_22 rfl 2 rfl ?_
  obtain ⟨a8, ha8, h⟩ := ob h
  refine r_getS (pc := 23) dX12_unwind_23 fgX12_107 rfl g1 ha8 ?_
  refine r_iload_n (pc := 26) dX12_unwind_26 rfl 1 rfl ?_
  obtain ⟨g9, h⟩ := gd h
  obtain ⟨g10, h⟩ := gd h
  refine r_iaload (pc := 27) dX12_unwind_27 g9 g10 ?_
  refine r_istore_n (pc := 28) (L' := [(3, vI ((u2 I t 42 ((I t 42) - (1 : Int32))) a8 (Int32.toNatClampNeg ((u2 I t 42 ((I t 42) - (1 : Int32))) t 42)))), (2, vI ((u2 I t 42 ((I t 42) - (1 : Int32))) a4 (Int32.toNatClampNeg ((u2 I t 42 ((I t 42) - (1 : Int32))) t 42)))), (1, vI ((u2 I t 42 ((I t 42) - (1 : Int32))) t 42)), (0, vR (some t))]) dX12_unwind_28 rfl (by decide) rfl ?_
  refine r_aload_n (pc := 29) dX12_unwind_29 rfl 3 rfl ?_
  refine r_iload_n (pc := 30) dX12_unwind_30 rfl 2 rfl ?_
  obtain ⟨⟨I12, J13⟩, hc14, h⟩ := ob h
  refine r_callV0 (pc := 31) (av := [vI ((u2 I t 42 ((I t 42) - (1 : Int32))) t 42)]) (S := []) dX12_unwind_31 (kX12_giveBack hc14) g1 rfl mkX12_573 mwX12_giveBack rfl ⟨Nat.le_of_ble_eq_true rfl, Nat.le_of_ble_eq_true rfl⟩ (Nat.le_of_ble_eq_true rfl) ⟨Nat.le_refl _, Nat.le_refl _⟩ (fun b => b) ?_
  refine r_aload_n (pc := 34) dX12_unwind_34 rfl 3 rfl ?_
  obtain ⟨a15, ha15, h⟩ := ob h
  refine r_getS (pc := 35) dX12_unwind_35 fgX12_101 rfl g1 ha15 ?_
  refine r_iload_n (pc := 38) dX12_unwind_38 rfl 2 rfl ?_
  obtain ⟨g16, h⟩ := gd h
  obtain ⟨g17, h⟩ := gd h
  refine r_iaload (pc := 39) dX12_unwind_39 g16 g17 ?_
  rcases itc h with ⟨c18, h⟩ | ⟨c18, h⟩
  · refine r_tsIn (x := (I12 a15 (Int32.toNatClampNeg ((u2 I t 42 ((I t 42) - (1 : Int32))) t 42)))) (pc := 40) (tgt := 120) dX12_unwind_40 (by rw [c18]; decide) (by rw [c18]; decide) (by rw [c18]; rfl) rfl ?_
    refine r_aload_n (pc := 120) dX12_unwind_120 rfl 3 rfl ?_
    refine r_dup (pc := 121) dX12_unwind_121 rfl ?_
    refine r_getI (pc := 122) dX12_unwind_122 fgX12_567 rfl g1 ?_
    refine r_iconst (pc := 125) dX12_unwind_125 kc_iconst_1 ?_
    refine r_isub (pc := 126) dX12_unwind_126 ?_
    refine r_putI (pc := 127) dX12_unwind_127 fwX12_567 rfl g1 ?_
    refine r_goto (pc := 130) (tgt := 274) dX12_unwind_130 rfl ?_
    cases h
    exact r_vret dX12_unwind_274
  · rcases itc h with ⟨c19, h⟩ | ⟨c19, h⟩
    · refine r_tsIn (x := (I12 a15 (Int32.toNatClampNeg ((u2 I t 42 ((I t 42) - (1 : Int32))) t 42)))) (pc := 40) (tgt := 274) dX12_unwind_40 (by rw [c19]; decide) (by rw [c19]; decide) (by rw [c19]; rfl) rfl ?_
      cases h
      exact r_vret dX12_unwind_274
    · rcases itc h with ⟨c20, h⟩ | ⟨c20, h⟩
      · refine r_tsIn (x := (I12 a15 (Int32.toNatClampNeg ((u2 I t 42 ((I t 42) - (1 : Int32))) t 42)))) (pc := 40) (tgt := 274) dX12_unwind_40 (by rw [c20]; decide) (by rw [c20]; decide) (by rw [c20]; rfl) rfl ?_
        cases h
        exact r_vret dX12_unwind_274
      · rcases itc h with ⟨c21, h⟩ | ⟨c21, h⟩
        · refine r_tsIn (x := (I12 a15 (Int32.toNatClampNeg ((u2 I t 42 ((I t 42) - (1 : Int32))) t 42)))) (pc := 40) (tgt := 274) dX12_unwind_40 (by rw [c21]; decide) (by rw [c21]; decide) (by rw [c21]; rfl) rfl ?_
          cases h
          exact r_vret dX12_unwind_274
        · rcases itc h with ⟨c22, h⟩ | ⟨c22, h⟩
          · refine r_tsIn (x := (I12 a15 (Int32.toNatClampNeg ((u2 I t 42 ((I t 42) - (1 : Int32))) t 42)))) (pc := 40) (tgt := 133) dX12_unwind_40 (by rw [c22]; decide) (by rw [c22]; decide) (by rw [c22]; rfl) rfl ?_
            refine r_sub [3, 2] rfl ?_
            exact wX12_unwind_b133 h
          · rcases itc h with ⟨c23, h⟩ | ⟨c23, h⟩
            · refine r_tsIn (x := (I12 a15 (Int32.toNatClampNeg ((u2 I t 42 ((I t 42) - (1 : Int32))) t 42)))) (pc := 40) (tgt := 133) dX12_unwind_40 (by rw [c23]; decide) (by rw [c23]; decide) (by rw [c23]; rfl) rfl ?_
              refine r_sub [3, 2] rfl ?_
              exact wX12_unwind_b133 h
            · rcases itc h with ⟨c24, h⟩ | ⟨c24, h⟩
              · refine r_tsIn (x := (I12 a15 (Int32.toNatClampNeg ((u2 I t 42 ((I t 42) - (1 : Int32))) t 42)))) (pc := 40) (tgt := 159) dX12_unwind_40 (by rw [c24]; decide) (by rw [c24]; decide) (by rw [c24]; rfl) rfl ?_
                refine r_aload_n (pc := 159) dX12_unwind_159 rfl 3 rfl ?_
                refine r_getI (pc := 160) dX12_unwind_160 fgX12_491 rfl g1 ?_
                refine r_iconst (pc := 163) dX12_unwind_163 kc_iconst_1 ?_
                refine r_icmp_ne (pc := 164) (tgt := 177) dX12_unwind_164 rfl (fun c => ?_) (fun c => ?_)
                · have h := ie h c
                  refine r_aload_n (pc := 177) dX12_unwind_177 rfl 3 rfl ?_
                  refine r_getI (pc := 178) dX12_unwind_178 fgX12_491 rfl g1 ?_
                  refine r_iconst (pc := 181) dX12_unwind_181 kc_iconst_3 ?_
                  refine r_icmp_eq (pc := 182) (tgt := 274) dX12_unwind_182 rfl (fun c => ?_) (fun c => ?_)
                  · have h := it h c
                    cases h
                    exact r_vret dX12_unwind_274
                  · have h := ie h c
                    refine r_aload_n (pc := 185) dX12_unwind_185 rfl 3 rfl ?_
                    refine r_iload_n (pc := 186) dX12_unwind_186 rfl 1 rfl ?_
                    refine r_iload_n (pc := 187) dX12_unwind_187 rfl 0 rfl ?_
                    obtain ⟨I51, hc52, h⟩ := ob h
                    refine r_callV0 (pc := 188) (av := [vI ((u2 I t 42 ((I t 42) - (1 : Int32))) a4 (Int32.toNatClampNeg ((u2 I t 42 ((I t 42) - (1 : Int32))) t 42))), vI ((u2 I t 42 ((I t 42) - (1 : Int32))) a8 (Int32.toNatClampNeg ((u2 I t 42 ((I t 42) - (1 : Int32))) t 42)))]) (S := []) dX12_unwind_188 (kX12_leave hc52) g1 rfl mkX12_591 mwX12_leave rfl ⟨Nat.le_of_ble_eq_true rfl, Nat.le_of_ble_eq_true rfl⟩ (Nat.le_of_ble_eq_true rfl) ⟨Nat.le_refl _, Nat.le_refl _⟩ (fun b => b) ?_
                    refine r_goto (pc := 191) (tgt := 274) dX12_unwind_191 rfl ?_
                    cases h
                    exact r_vret dX12_unwind_274
                · have h := it h c
                  refine r_aload_n (pc := 167) dX12_unwind_167 rfl 3 rfl ?_
                  refine r_iload_n (pc := 168) dX12_unwind_168 rfl 1 rfl ?_
                  refine r_iload_n (pc := 169) dX12_unwind_169 rfl 0 rfl ?_
                  obtain ⟨⟨I53, r54⟩, hc55, h⟩ := ob h
                  refine r_callV1 (pc := 170) (av := [vI ((u2 I t 42 ((I t 42) - (1 : Int32))) a4 (Int32.toNatClampNeg ((u2 I t 42 ((I t 42) - (1 : Int32))) t 42))), vI ((u2 I t 42 ((I t 42) - (1 : Int32))) a8 (Int32.toNatClampNeg ((u2 I t 42 ((I t 42) - (1 : Int32))) t 42)))]) (S := []) dX12_unwind_170 (kX12_isMet hc55) g1 rfl mkX12_588 mwX12_isMet rfl ⟨Nat.le_of_ble_eq_true rfl, Nat.le_of_ble_eq_true rfl⟩ (Nat.le_of_ble_eq_true rfl) ⟨Nat.le_refl _, Nat.le_refl _⟩ (fun b => b) ?_
                  refine r_if_eq (pc := 173) (tgt := 177) dX12_unwind_173 rfl (fun c => ?_) (fun c => ?_)
                  · have h := it h c
                    refine r_aload_n (pc := 177) dX12_unwind_177 rfl 3 rfl ?_
                    refine r_getI (pc := 178) dX12_unwind_178 fgX12_491 rfl g1 ?_
                    refine r_iconst (pc := 181) dX12_unwind_181 kc_iconst_3 ?_
                    refine r_icmp_eq (pc := 182) (tgt := 274) dX12_unwind_182 rfl (fun c => ?_) (fun c => ?_)
                    · have h := it h c
                      cases h
                      exact r_vret dX12_unwind_274
                    · have h := ie h c
                      refine r_aload_n (pc := 185) dX12_unwind_185 rfl 3 rfl ?_
                      refine r_iload_n (pc := 186) dX12_unwind_186 rfl 1 rfl ?_
                      refine r_iload_n (pc := 187) dX12_unwind_187 rfl 0 rfl ?_
                      obtain ⟨I56, hc57, h⟩ := ob h
                      refine r_callV0 (pc := 188) (av := [vI ((u2 I t 42 ((I t 42) - (1 : Int32))) a4 (Int32.toNatClampNeg ((u2 I t 42 ((I t 42) - (1 : Int32))) t 42))), vI ((u2 I t 42 ((I t 42) - (1 : Int32))) a8 (Int32.toNatClampNeg ((u2 I t 42 ((I t 42) - (1 : Int32))) t 42)))]) (S := []) dX12_unwind_188 (kX12_leave hc57) g1 rfl mkX12_591 mwX12_leave rfl ⟨Nat.le_of_ble_eq_true rfl, Nat.le_of_ble_eq_true rfl⟩ (Nat.le_of_ble_eq_true rfl) ⟨Nat.le_refl _, Nat.le_refl _⟩ (fun b => b) ?_
                      refine r_goto (pc := 191) (tgt := 274) dX12_unwind_191 rfl ?_
                      cases h
                      exact r_vret dX12_unwind_274
                  · have h := ie h c
                    cases h
                    exact r_vret dX12_unwind_176
              · rcases itc h with ⟨c25, h⟩ | ⟨c25, h⟩
                · refine r_tsIn (x := (I12 a15 (Int32.toNatClampNeg ((u2 I t 42 ((I t 42) - (1 : Int32))) t 42)))) (pc := 40) (tgt := 194) dX12_unwind_40 (by rw [c25]; decide) (by rw [c25]; decide) (by rw [c25]; rfl) rfl ?_
                  refine r_aload_n (pc := 194) dX12_unwind_194 rfl 3 rfl ?_
                  refine r_aload_n (pc := 195) dX12_unwind_195 rfl 3 rfl ?_
                  refine r_getI (pc := 196) dX12_unwind_196 fgX12_491 rfl g1 ?_
                  refine r_iconst (pc := 199) dX12_unwind_199 kc_iconst_1 ?_
                  refine r_icmp_ne (pc := 200) (tgt := 212) dX12_unwind_200 rfl (fun c => ?_) (fun c => ?_)
                  · have h := ie h c
                    refine r_aload_n (pc := 212) dX12_unwind_212 rfl 3 rfl ?_
                    refine r_getI (pc := 213) dX12_unwind_213 fgX12_506 rfl g1 ?_
                    refine r_putI (pc := 216) dX12_unwind_216 fwX12_506 rfl g1 ?_
                    refine r_aload_n (pc := 219) dX12_unwind_219 rfl 3 rfl ?_
                    refine r_getI (pc := 220) dX12_unwind_220 fgX12_491 rfl g1 ?_
                    refine r_iconst (pc := 223) dX12_unwind_223 kc_iconst_3 ?_
                    refine r_icmp_eq (pc := 224) (tgt := 274) dX12_unwind_224 rfl (fun c => ?_) (fun c => ?_)
                    · have h := it h c
                      cases h
                      exact r_vret dX12_unwind_274
                    · have h := ie h c
                      refine r_aload_n (pc := 227) dX12_unwind_227 rfl 3 rfl ?_
                      refine r_iload_n (pc := 228) dX12_unwind_228 rfl 1 rfl ?_
                      refine r_iload_n (pc := 229) dX12_unwind_229 rfl 0 rfl ?_
                      obtain ⟨I43, hc44, h⟩ := ob h
                      refine r_callV0 (pc := 230) (av := [vI ((u2 I t 42 ((I t 42) - (1 : Int32))) a4 (Int32.toNatClampNeg ((u2 I t 42 ((I t 42) - (1 : Int32))) t 42))), vI ((u2 I t 42 ((I t 42) - (1 : Int32))) a8 (Int32.toNatClampNeg ((u2 I t 42 ((I t 42) - (1 : Int32))) t 42)))]) (S := []) dX12_unwind_230 (kX12_leave hc44) g1 rfl mkX12_591 mwX12_leave rfl ⟨Nat.le_of_ble_eq_true rfl, Nat.le_of_ble_eq_true rfl⟩ (Nat.le_of_ble_eq_true rfl) ⟨Nat.le_refl _, Nat.le_refl _⟩ (fun b => b) ?_
                      refine r_goto (pc := 233) (tgt := 274) dX12_unwind_233 rfl ?_
                      cases h
                      exact r_vret dX12_unwind_274
                  · have h := it h c
                    refine r_aload_n (pc := 203) dX12_unwind_203 rfl 3 rfl ?_
                    obtain ⟨a45, ha45, h⟩ := ob h
                    refine r_getS (pc := 204) dX12_unwind_204 fgX12_119 rfl g1 ha45 ?_
                    refine r_iload_n (pc := 207) dX12_unwind_207 rfl 2 rfl ?_
                    obtain ⟨g46, h⟩ := gd h
                    obtain ⟨g47, h⟩ := gd h
                    refine r_iaload (pc := 208) dX12_unwind_208 g46 g47 ?_
                    refine r_goto (pc := 209) (tgt := 216) dX12_unwind_209 rfl ?_
                    refine r_putI (pc := 216) dX12_unwind_216 fwX12_506 rfl g1 ?_
                    refine r_aload_n (pc := 219) dX12_unwind_219 rfl 3 rfl ?_
                    refine r_getI (pc := 220) dX12_unwind_220 fgX12_491 rfl g1 ?_
                    refine r_iconst (pc := 223) dX12_unwind_223 kc_iconst_3 ?_
                    refine r_icmp_eq (pc := 224) (tgt := 274) dX12_unwind_224 rfl (fun c => ?_) (fun c => ?_)
                    · have h := it h c
                      cases h
                      exact r_vret dX12_unwind_274
                    · have h := ie h c
                      refine r_aload_n (pc := 227) dX12_unwind_227 rfl 3 rfl ?_
                      refine r_iload_n (pc := 228) dX12_unwind_228 rfl 1 rfl ?_
                      refine r_iload_n (pc := 229) dX12_unwind_229 rfl 0 rfl ?_
                      obtain ⟨I49, hc50, h⟩ := ob h
                      refine r_callV0 (pc := 230) (av := [vI ((u2 I t 42 ((I t 42) - (1 : Int32))) a4 (Int32.toNatClampNeg ((u2 I t 42 ((I t 42) - (1 : Int32))) t 42))), vI ((u2 I t 42 ((I t 42) - (1 : Int32))) a8 (Int32.toNatClampNeg ((u2 I t 42 ((I t 42) - (1 : Int32))) t 42)))]) (S := []) dX12_unwind_230 (kX12_leave hc50) g1 rfl mkX12_591 mwX12_leave rfl ⟨Nat.le_of_ble_eq_true rfl, Nat.le_of_ble_eq_true rfl⟩ (Nat.le_of_ble_eq_true rfl) ⟨Nat.le_refl _, Nat.le_refl _⟩ (fun b => b) ?_
                      refine r_goto (pc := 233) (tgt := 274) dX12_unwind_233 rfl ?_
                      cases h
                      exact r_vret dX12_unwind_274
                · rcases itc h with ⟨c26, h⟩ | ⟨c26, h⟩
                  · refine r_tsIn (x := (I12 a15 (Int32.toNatClampNeg ((u2 I t 42 ((I t 42) - (1 : Int32))) t 42)))) (pc := 40) (tgt := 236) dX12_unwind_40 (by rw [c26]; decide) (by rw [c26]; decide) (by rw [c26]; rfl) rfl ?_
                    refine r_aload_n (pc := 236) dX12_unwind_236 rfl 3 rfl ?_
                    refine r_aload_n (pc := 237) dX12_unwind_237 rfl 3 rfl ?_
                    refine r_getI (pc := 238) dX12_unwind_238 fgX12_491 rfl g1 ?_
                    refine r_iconst (pc := 241) dX12_unwind_241 kc_iconst_1 ?_
                    refine r_icmp_ne (pc := 242) (tgt := 264) dX12_unwind_242 rfl (fun c => ?_) (fun c => ?_)
                    · have h := ie h c
                      refine r_aload_n (pc := 264) dX12_unwind_264 rfl 3 rfl ?_
                      refine r_getI (pc := 265) dX12_unwind_265 fgX12_506 rfl g1 ?_
                      refine r_putI (pc := 268) dX12_unwind_268 fwX12_506 rfl g1 ?_
                      refine r_goto (pc := 271) (tgt := 274) dX12_unwind_271 rfl ?_
                      cases h
                      exact r_vret dX12_unwind_274
                    · have h := it h c
                      refine r_aload_n (pc := 245) dX12_unwind_245 rfl 3 rfl ?_
                      obtain ⟨a34, ha34, h⟩ := ob h
                      refine r_getS (pc := 246) dX12_unwind_246 fgX12_116 rfl g1 ha34 ?_
                      refine r_iload_n (pc := 249) dX12_unwind_249 rfl 2 rfl ?_
                      obtain ⟨g35, h⟩ := gd h
                      obtain ⟨g36, h⟩ := gd h
                      refine r_iaload (pc := 250) dX12_unwind_250 g35 g36 ?_
                      refine r_iconst (pc := 251) dX12_unwind_251 kc_iconst_1 ?_
                      refine r_icmp_ne (pc := 252) (tgt := 264) dX12_unwind_252 rfl (fun c => ?_) (fun c => ?_)
                      · have h := ie h c
                        refine r_aload_n (pc := 264) dX12_unwind_264 rfl 3 rfl ?_
                        refine r_getI (pc := 265) dX12_unwind_265 fgX12_506 rfl g1 ?_
                        refine r_putI (pc := 268) dX12_unwind_268 fwX12_506 rfl g1 ?_
                        refine r_goto (pc := 271) (tgt := 274) dX12_unwind_271 rfl ?_
                        cases h
                        exact r_vret dX12_unwind_274
                      · have h := it h c
                        refine r_aload_n (pc := 255) dX12_unwind_255 rfl 3 rfl ?_
                        obtain ⟨a38, ha38, h⟩ := ob h
                        refine r_getS (pc := 256) dX12_unwind_256 fgX12_119 rfl g1 ha38 ?_
                        refine r_iload_n (pc := 259) dX12_unwind_259 rfl 2 rfl ?_
                        obtain ⟨g39, h⟩ := gd h
                        obtain ⟨g40, h⟩ := gd h
                        refine r_iaload (pc := 260) dX12_unwind_260 g39 g40 ?_
                        refine r_goto (pc := 261) (tgt := 268) dX12_unwind_261 rfl ?_
                        refine r_putI (pc := 268) dX12_unwind_268 fwX12_506 rfl g1 ?_
                        refine r_goto (pc := 271) (tgt := 274) dX12_unwind_271 rfl ?_
                        cases h
                        exact r_vret dX12_unwind_274
                  · rcases itc h with ⟨c27, h⟩ | ⟨c27, h⟩
                    · refine r_tsIn (x := (I12 a15 (Int32.toNatClampNeg ((u2 I t 42 ((I t 42) - (1 : Int32))) t 42)))) (pc := 40) (tgt := 274) dX12_unwind_40 (by rw [c27]; decide) (by rw [c27]; decide) (by rw [c27]; rfl) rfl ?_
                      cases h
                      exact r_vret dX12_unwind_274
                    · rcases itc h with ⟨c28, h⟩ | ⟨c28, h⟩
                      · refine r_tsIn (x := (I12 a15 (Int32.toNatClampNeg ((u2 I t 42 ((I t 42) - (1 : Int32))) t 42)))) (pc := 40) (tgt := 274) dX12_unwind_40 (by rw [c28]; decide) (by rw [c28]; decide) (by rw [c28]; rfl) rfl ?_
                        cases h
                        exact r_vret dX12_unwind_274
                      · rcases itc h with ⟨c29, h⟩ | ⟨c29, h⟩
                        · refine r_tsIn (x := (I12 a15 (Int32.toNatClampNeg ((u2 I t 42 ((I t 42) - (1 : Int32))) t 42)))) (pc := 40) (tgt := 104) dX12_unwind_40 (by rw [c29]; decide) (by rw [c29]; decide) (by rw [c29]; rfl) rfl ?_
                          refine r_aload_n (pc := 104) dX12_unwind_104 rfl 3 rfl ?_
                          refine r_getI (pc := 105) dX12_unwind_105 fgX12_491 rfl g1 ?_
                          refine r_iconst (pc := 108) dX12_unwind_108 kc_iconst_1 ?_
                          refine r_icmp_ne (pc := 109) (tgt := 274) dX12_unwind_109 rfl (fun c => ?_) (fun c => ?_)
                          · have h := ie h c
                            cases h
                            exact r_vret dX12_unwind_274
                          · have h := it h c
                            refine r_aload_n (pc := 112) dX12_unwind_112 rfl 3 rfl ?_
                            refine r_iconst (pc := 113) dX12_unwind_113 kc_iconst_0 ?_
                            obtain ⟨⟨I30, J31⟩, hc32, h⟩ := ob h
                            refine r_callV0 (pc := 114) (av := [vI (0 : Int32)]) (S := []) dX12_unwind_114 (kX12_undoTo hc32) g1 rfl mkX12_582 mwX12_undoTo rfl ⟨Nat.le_of_ble_eq_true rfl, Nat.le_of_ble_eq_true rfl⟩ (Nat.le_of_ble_eq_true rfl) ⟨Nat.le_refl _, Nat.le_refl _⟩ (fun b => b) ?_
                            refine r_goto (pc := 117) (tgt := 274) dX12_unwind_117 rfl ?_
                            cases h
                            exact r_vret dX12_unwind_274
                        · refine r_tsOut (x := (I12 a15 (Int32.toNatClampNeg ((u2 I t 42 ((I t 42) - (1 : Int32))) t 42)))) (pc := 40) (tgt := 274) dX12_unwind_40 (by have ec18 := i32n c18 (k := 10) rfl; have ec19 := i32n c19 (k := 11) rfl; have ec20 := i32n c20 (k := 12) rfl; have ec21 := i32n c21 (k := 13) rfl; have ec22 := i32n c22 (k := 14) rfl; have ec23 := i32n c23 (k := 15) rfl; have ec24 := i32n c24 (k := 16) rfl; have ec25 := i32n c25 (k := 17) rfl; have ec26 := i32n c26 (k := 18) rfl; have ec27 := i32n c27 (k := 19) rfl; have ec28 := i32n c28 (k := 20) rfl; have ec29 := i32n c29 (k := 21) rfl; omega) rfl ?_
                          cases h
                          exact r_vret dX12_unwind_274
abbrev WX12_run (G : Gx) (l : Launch) (σ0 : Shp) (X1 : Stt) (rv : Option SV) : Stt → Nat → List (Nat × SV) → List SV → Prop := Wm G l yX12_run cX12_run 3 (some .int) (fun _ => True) (rmx 8 184 σ0 X1.1) σ0 (Qmx G σ0 X1 rv)
def fX12_run_b331  (σ : Shp) (R : Nat → Nat → Option Nat) (t : Nat) (I : Nat → Nat → Int32) (J : Nat → Nat → Int64) (x2 : Int32) (s0 : Option Nat) (s1 : Int32) : Option ((Nat → Nat → Int32) × (Nat → Nat → Int64) × (Int32)) :=
  (s0 : Option Nat).bind fun a28 =>
  if kdx σ a28 = 13 then
  let I30 := u2 I a28 74 s1
  if x2 = 0 then
    if kdx σ t = 13 then
    if (I30 t 59) = (2 : Int32) then
      some (I30, J, (1 : Int32))
    else
      if (I30 t 59) = (3 : Int32) then
        some (I30, J, (-30 : Int32))
      else
        some (I30, J, (0 : Int32))
    else none
  else
    if kdx σ t = 13 then
    let I33 := u2 I30 t 2 (I30 t 60)
    some (I33, J, ((-10 : Int32) - (I33 t 60)))
    else none
  else none
theorem wX12_run_b331 {G : Gx} {l : Launch} {σ : Shp} {I : Nat → Nat → Int32} {J : Nat → Nat → Int64} {D : Nat → Nat → UInt64} {R : Nat → Nat → Option Nat} {t : Nat} {I9 : Nat → Nat → Int32} {J9 : Nat → Nat → Int64} {r9 : Int32} {x2 : Int32} {s0 : Option Nat} {s1 : Int32} (h : fX12_run_b331 σ R t I J x2 s0 s1 = some (I9, J9, r9)) : WX12_run G l σ (σ, I9, J9, D, R) (some (vI r9)) (σ, I, J, D, R) 331 [(0, vR (some t)), (2, vI x2)] [vI s1, vR s0] := by
  unfold fX12_run_b331 at h
  obtain ⟨a28, ha28, h⟩ := ob h
  refine r_ref1 ha28 ?_
  obtain ⟨g29, h⟩ := gd h
  refine r_putI (pc := 331) dX12_run_331 fwX12_609 rfl g29 ?_
  refine r_iload_n (pc := 334) dX12_run_334 rfl 1 rfl ?_
  refine r_if_eq (pc := 335) (tgt := 354) dX12_run_335 rfl (fun c => ?_) (fun c => ?_)
  · have h := it h c
    refine r_aload_n (pc := 354) dX12_run_354 rfl 0 rfl ?_
    obtain ⟨g31, h⟩ := gd h
    refine r_getI (pc := 355) dX12_run_355 fgX12_491 rfl g31 ?_
    refine r_iconst (pc := 358) dX12_run_358 kc_iconst_2 ?_
    refine r_icmp_ne (pc := 359) (tgt := 366) dX12_run_359 rfl (fun c => ?_) (fun c => ?_)
    · have h := ie h c
      refine r_aload_n (pc := 366) dX12_run_366 rfl 0 rfl ?_
      refine r_getI (pc := 367) dX12_run_367 fgX12_491 rfl g31 ?_
      refine r_iconst (pc := 370) dX12_run_370 kc_iconst_3 ?_
      refine r_icmp_ne (pc := 371) (tgt := 379) dX12_run_371 rfl (fun c => ?_) (fun c => ?_)
      · have h := ie h c
        refine r_iconst (pc := 379) dX12_run_379 kc_iconst_0 ?_
        cases h
        exact r_iret dX12_run_380
      · have h := it h c
        refine r_bipush (pc := 374) dX12_run_374 kc_bipush_m30 ?_
        refine r_goto (pc := 376) (tgt := 380) dX12_run_376 rfl ?_
        cases h
        exact r_iret dX12_run_380
    · have h := it h c
      refine r_iconst (pc := 362) dX12_run_362 kc_iconst_1 ?_
      refine r_goto (pc := 363) (tgt := 380) dX12_run_363 rfl ?_
      cases h
      exact r_iret dX12_run_380
  · have h := ie h c
    refine r_aload_n (pc := 338) dX12_run_338 rfl 0 rfl ?_
    refine r_aload_n (pc := 339) dX12_run_339 rfl 0 rfl ?_
    obtain ⟨g32, h⟩ := gd h
    refine r_getI (pc := 340) dX12_run_340 fgX12_494 rfl g32 ?_
    refine r_putI (pc := 343) dX12_run_343 fwX12_305 rfl g32 ?_
    refine r_bipush (pc := 346) dX12_run_346 kc_bipush_m10 ?_
    refine r_aload_n (pc := 348) dX12_run_348 rfl 0 rfl ?_
    refine r_getI (pc := 349) dX12_run_349 fgX12_494 rfl g32 ?_
    refine r_isub (pc := 352) dX12_run_352 ?_
    cases h
    exact r_iret dX12_run_353
def fX12_run_b295  (σ : Shp) (R : Nat → Nat → Option Nat) (t : Nat) (I : Nat → Nat → Int32) (J : Nat → Nat → Int64) (x2 : Int32) (s0 : Option Nat) (s1 : Int32) : Option ((Nat → Nat → Int32) × (Nat → Nat → Int64) × (Int32)) :=
  (s0 : Option Nat).bind fun a23 =>
  if kdx σ a23 = 13 then
  let I25 := u2 I a23 72 s1
  if x2 = 0 then
    if kdx σ t = 13 then
    let I27 := u2 I25 t 73 (0 : Int32)
    if (I27 t 59) = (2 : Int32) then
      fX12_run_b331 σ R t I27 J x2 (some t) (I27 t 64)
    else
      fX12_run_b331 σ R t I27 J x2 (some t) (0 : Int32)
    else none
  else
    if kdx σ t = 13 then
    let I35 := u2 I25 t 73 (I25 t 61)
    if (I35 t 59) = (2 : Int32) then
      fX12_run_b331 σ R t I35 J x2 (some t) (I35 t 64)
    else
      fX12_run_b331 σ R t I35 J x2 (some t) (0 : Int32)
    else none
  else none
theorem wX12_run_b295 {G : Gx} {l : Launch} {σ : Shp} {I : Nat → Nat → Int32} {J : Nat → Nat → Int64} {D : Nat → Nat → UInt64} {R : Nat → Nat → Option Nat} {t : Nat} {I9 : Nat → Nat → Int32} {J9 : Nat → Nat → Int64} {r9 : Int32} {x2 : Int32} {s0 : Option Nat} {s1 : Int32} (h : fX12_run_b295 σ R t I J x2 s0 s1 = some (I9, J9, r9)) : WX12_run G l σ (σ, I9, J9, D, R) (some (vI r9)) (σ, I, J, D, R) 295 [(0, vR (some t)), (2, vI x2)] [vI s1, vR s0] := by
  unfold fX12_run_b295 at h
  obtain ⟨a23, ha23, h⟩ := ob h
  refine r_ref1 ha23 ?_
  obtain ⟨g24, h⟩ := gd h
  refine r_putI (pc := 295) dX12_run_295 fwX12_603 rfl g24 ?_
  refine r_aload_n (pc := 298) dX12_run_298 rfl 0 rfl ?_
  refine r_iload_n (pc := 299) dX12_run_299 rfl 1 rfl ?_
  refine r_if_eq (pc := 300) (tgt := 310) dX12_run_300 rfl (fun c => ?_) (fun c => ?_)
  · have h := it h c
    refine r_iconst (pc := 310) dX12_run_310 kc_iconst_0 ?_
    obtain ⟨g26, h⟩ := gd h
    refine r_putI (pc := 311) dX12_run_311 fwX12_606 rfl g26 ?_
    refine r_aload_n (pc := 314) dX12_run_314 rfl 0 rfl ?_
    refine r_aload_n (pc := 315) dX12_run_315 rfl 0 rfl ?_
    refine r_getI (pc := 316) dX12_run_316 fgX12_491 rfl g26 ?_
    refine r_iconst (pc := 319) dX12_run_319 kc_iconst_2 ?_
    refine r_icmp_ne (pc := 320) (tgt := 330) dX12_run_320 rfl (fun c => ?_) (fun c => ?_)
    · have h := ie h c
      refine r_iconst (pc := 330) dX12_run_330 kc_iconst_0 ?_
      refine r_sub [0, 1] rfl ?_
      exact wX12_run_b331 h
    · have h := it h c
      refine r_aload_n (pc := 323) dX12_run_323 rfl 0 rfl ?_
      refine r_getI (pc := 324) dX12_run_324 fgX12_558 rfl g26 ?_
      refine r_goto (pc := 327) (tgt := 331) dX12_run_327 rfl ?_
      refine r_sub [0, 1] rfl ?_
      exact wX12_run_b331 h
  · have h := ie h c
    refine r_aload_n (pc := 303) dX12_run_303 rfl 0 rfl ?_
    obtain ⟨g34, h⟩ := gd h
    refine r_getI (pc := 304) dX12_run_304 fgX12_497 rfl g34 ?_
    refine r_goto (pc := 307) (tgt := 311) dX12_run_307 rfl ?_
    refine r_putI (pc := 311) dX12_run_311 fwX12_606 rfl g34 ?_
    refine r_aload_n (pc := 314) dX12_run_314 rfl 0 rfl ?_
    refine r_aload_n (pc := 315) dX12_run_315 rfl 0 rfl ?_
    refine r_getI (pc := 316) dX12_run_316 fgX12_491 rfl g34 ?_
    refine r_iconst (pc := 319) dX12_run_319 kc_iconst_2 ?_
    refine r_icmp_ne (pc := 320) (tgt := 330) dX12_run_320 rfl (fun c => ?_) (fun c => ?_)
    · have h := ie h c
      refine r_iconst (pc := 330) dX12_run_330 kc_iconst_0 ?_
      refine r_sub [0, 1] rfl ?_
      exact wX12_run_b331 h
    · have h := it h c
      refine r_aload_n (pc := 323) dX12_run_323 rfl 0 rfl ?_
      refine r_getI (pc := 324) dX12_run_324 fgX12_558 rfl g34 ?_
      refine r_goto (pc := 327) (tgt := 331) dX12_run_327 rfl ?_
      refine r_sub [0, 1] rfl ?_
      exact wX12_run_b331 h
def fX12_run_b265  (σ : Shp) (R : Nat → Nat → Option Nat) (t : Nat) (I : Nat → Nat → Int32) (J : Nat → Nat → Int64) (s0 : Int32) : Option ((Nat → Nat → Int32) × (Nat → Nat → Int64) × (Int32)) :=
  if s0 = 0 then
    if kdx σ t = 13 then
    let I22 := u2 I t 71 (-1 : Int32)
    if s0 = 0 then
      fX12_run_b295 σ R t I22 J s0 (some t) (0 : Int32)
    else
      fX12_run_b295 σ R t I22 J s0 (some t) (I22 t 63)
    else none
  else
    if kdx σ t = 13 then
    let I37 := u2 I t 71 (I t 62)
    if s0 = 0 then
      fX12_run_b295 σ R t I37 J s0 (some t) (0 : Int32)
    else
      fX12_run_b295 σ R t I37 J s0 (some t) (I37 t 63)
    else none
theorem wX12_run_b265 {G : Gx} {l : Launch} {σ : Shp} {I : Nat → Nat → Int32} {J : Nat → Nat → Int64} {D : Nat → Nat → UInt64} {R : Nat → Nat → Option Nat} {t : Nat} {I9 : Nat → Nat → Int32} {J9 : Nat → Nat → Int64} {r9 : Int32} {s0 : Int32} (h : fX12_run_b265 σ R t I J s0 = some (I9, J9, r9)) : WX12_run G l σ (σ, I9, J9, D, R) (some (vI r9)) (σ, I, J, D, R) 265 [(0, vR (some t))] [vI s0] := by
  unfold fX12_run_b265 at h
  refine r_istore_n (pc := 265) (L' := [(2, vI s0), (0, vR (some t))]) dX12_run_265 rfl (by decide) rfl ?_
  refine r_aload_n (pc := 266) dX12_run_266 rfl 1 rfl ?_
  refine r_iload_n (pc := 267) dX12_run_267 rfl 0 rfl ?_
  refine r_if_eq (pc := 268) (tgt := 278) dX12_run_268 rfl (fun c => ?_) (fun c => ?_)
  · have h := it h c
    refine r_iconst (pc := 278) dX12_run_278 kc_iconst_m1 ?_
    obtain ⟨g21, h⟩ := gd h
    refine r_putI (pc := 279) dX12_run_279 fwX12_140 rfl g21 ?_
    refine r_aload_n (pc := 282) dX12_run_282 rfl 1 rfl ?_
    refine r_iload_n (pc := 283) dX12_run_283 rfl 0 rfl ?_
    refine r_if_eq (pc := 284) (tgt := 294) dX12_run_284 rfl (fun c => ?_) (fun c => ?_)
    · have h := it h c
      refine r_iconst (pc := 294) dX12_run_294 kc_iconst_0 ?_
      refine r_sub [1, 0] rfl ?_
      exact wX12_run_b295 h
    · have h := ie h c
      refine r_aload_n (pc := 287) dX12_run_287 rfl 1 rfl ?_
      refine r_getI (pc := 288) dX12_run_288 fgX12_506 rfl g21 ?_
      refine r_goto (pc := 291) (tgt := 295) dX12_run_291 rfl ?_
      refine r_sub [1, 0] rfl ?_
      exact wX12_run_b295 h
  · have h := ie h c
    refine r_aload_n (pc := 271) dX12_run_271 rfl 1 rfl ?_
    obtain ⟨g36, h⟩ := gd h
    refine r_getI (pc := 272) dX12_run_272 fgX12_503 rfl g36 ?_
    refine r_goto (pc := 275) (tgt := 279) dX12_run_275 rfl ?_
    refine r_putI (pc := 279) dX12_run_279 fwX12_140 rfl g36 ?_
    refine r_aload_n (pc := 282) dX12_run_282 rfl 1 rfl ?_
    refine r_iload_n (pc := 283) dX12_run_283 rfl 0 rfl ?_
    refine r_if_eq (pc := 284) (tgt := 294) dX12_run_284 rfl (fun c => ?_) (fun c => ?_)
    · have h := it h c
      refine r_iconst (pc := 294) dX12_run_294 kc_iconst_0 ?_
      refine r_sub [1, 0] rfl ?_
      exact wX12_run_b295 h
    · have h := ie h c
      refine r_aload_n (pc := 287) dX12_run_287 rfl 1 rfl ?_
      refine r_getI (pc := 288) dX12_run_288 fgX12_506 rfl g36 ?_
      refine r_goto (pc := 291) (tgt := 295) dX12_run_291 rfl ?_
      refine r_sub [1, 0] rfl ?_
      exact wX12_run_b295 h
def fX12_run_b166 (q95 : (Nat → Nat → Int32) → (Nat → Nat → Int64) → (Option ((Nat → Nat → Int32) × (Nat → Nat → Int64) × (Int32)))) (σ : Shp) (R : Nat → Nat → Option Nat) (t : Nat) (I : Nat → Nat → Int32) (J : Nat → Nat → Int64) (s0 : Option Nat) (s1 : Int32) (s2 : Int32) : Option ((Nat → Nat → Int32) × (Nat → Nat → Int64) × (Int32)) :=
  (s0 : Option Nat).bind fun a54 =>
  if kdx σ a54 = 13 then
  let I56 := u2 I a54 66 (s1 - s2)
  if kdx σ t = 13 then
  ((R t 44) : Option Nat).bind fun a58 =>
  if kdx σ a58 = 20 then
  if ¬ ((I56 t 42) < 0 ∨ lnx σ a58 ≤ Int32.toNatClampNeg (I56 t 42)) then
  let I61 := u2 I56 t 57 (I56 a58 (Int32.toNatClampNeg (I56 t 42)))
  ((R t 45) : Option Nat).bind fun a62 =>
  if kdx σ a62 = 20 then
  if ¬ ((I61 t 42) < 0 ∨ lnx σ a62 ≤ Int32.toNatClampNeg (I61 t 42)) then
  let I65 := u2 I61 t 58 ((I61 a62 (Int32.toNatClampNeg (I61 t 42))) + (1 : Int32))
  q95 I65 J
  else none
  else none
  else none
  else none
  else none
  else none
theorem wX12_run_b166 {G : Gx} {l : Launch} {σ : Shp} {I : Nat → Nat → Int32} {J : Nat → Nat → Int64} {D : Nat → Nat → UInt64} {R : Nat → Nat → Option Nat} {t : Nat} {I9 : Nat → Nat → Int32} {J9 : Nat → Nat → Int64} {r9 : Int32} {q95 : (Nat → Nat → Int32) → (Nat → Nat → Int64) → (Option ((Nat → Nat → Int32) × (Nat → Nat → Int64) × (Int32)))} {s0 : Option Nat} {s1 : Int32} {s2 : Int32} (hq95 : ∀ (I : Nat → Nat → Int32) (J : Nat → Nat → Int64), q95 I J = some (I9, J9, r9) → WX12_run G l σ (σ, I9, J9, D, R) (some (vI r9)) (σ, I, J, D, R) 95 [(0, vR (some t))] []) (h : fX12_run_b166 q95 σ R t I J s0 s1 s2 = some (I9, J9, r9)) : WX12_run G l σ (σ, I9, J9, D, R) (some (vI r9)) (σ, I, J, D, R) 166 [(0, vR (some t))] [vI s2, vI s1, vR s0] := by
  unfold fX12_run_b166 at h
  refine r_isub (pc := 166) dX12_run_166 ?_
  obtain ⟨a54, ha54, h⟩ := ob h
  refine r_ref1 ha54 ?_
  obtain ⟨g55, h⟩ := gd h
  refine r_putI (pc := 167) dX12_run_167 fwX12_567 rfl g55 ?_
  refine r_aload_n (pc := 170) dX12_run_170 rfl 0 rfl ?_
  refine r_aload_n (pc := 171) dX12_run_171 rfl 0 rfl ?_
  obtain ⟨g57, h⟩ := gd h
  obtain ⟨a58, ha58, h⟩ := ob h
  refine r_getS (pc := 172) dX12_run_172 fgX12_104 rfl g57 ha58 ?_
  refine r_aload_n (pc := 175) dX12_run_175 rfl 0 rfl ?_
  refine r_getI (pc := 176) dX12_run_176 fgX12_512 rfl g57 ?_
  obtain ⟨g59, h⟩ := gd h
  obtain ⟨g60, h⟩ := gd h
  refine r_iaload (pc := 179) dX12_run_179 g59 g60 ?_
  refine r_putI (pc := 180) dX12_run_180 fwX12_515 rfl g57 ?_
  refine r_aload_n (pc := 183) dX12_run_183 rfl 0 rfl ?_
  refine r_aload_n (pc := 184) dX12_run_184 rfl 0 rfl ?_
  obtain ⟨a62, ha62, h⟩ := ob h
  refine r_getS (pc := 185) dX12_run_185 fgX12_107 rfl g57 ha62 ?_
  refine r_aload_n (pc := 188) dX12_run_188 rfl 0 rfl ?_
  refine r_getI (pc := 189) dX12_run_189 fgX12_512 rfl g57 ?_
  obtain ⟨g63, h⟩ := gd h
  obtain ⟨g64, h⟩ := gd h
  refine r_iaload (pc := 192) dX12_run_192 g63 g64 ?_
  refine r_iconst (pc := 193) dX12_run_193 kc_iconst_1 ?_
  refine r_iadd (pc := 194) dX12_run_194 ?_
  refine r_putI (pc := 195) dX12_run_195 fwX12_500 rfl g57 ?_
  refine r_goto (pc := 198) (tgt := 95) dX12_run_198 rfl ?_
  refine r_sub [0] rfl ?_
  exact hq95 _ _ h
def fX12_run_l95  (σ : Shp) (R : Nat → Nat → Option Nat) (t : Nat) : Nat → (Nat → Nat → Int32) → (Nat → Nat → Int64) → Option ((Nat → Nat → Int32) × (Nat → Nat → Int64) × (Int32))
  | 0, _, _ => none
  | n + 1, I, J =>
    if kdx σ t = 13 then
    if (I t 42) ≤ 0 then
      if (I t 59) = (1 : Int32) then
        fX12_run_b265 σ R t I J (1 : Int32)
      else
        fX12_run_b265 σ R t I J (0 : Int32)
    else
      if (I t 59) = 0 then
        ((R t 33) : Option Nat).bind fun a38 =>
        if kdx σ a38 = 20 then
        if ¬ ((I t 57) < 0 ∨ lnx σ a38 ≤ Int32.toNatClampNeg (I t 57)) then
        if (I t 58) = (I a38 (Int32.toNatClampNeg (I t 57))) then
          let I50 := u2 I t 42 ((I t 42) - (1 : Int32))
          ((R t 43) : Option Nat).bind fun a51 =>
          if kdx σ a51 = 20 then
          if ¬ ((I50 t 42) < 0 ∨ lnx σ a51 ≤ Int32.toNatClampNeg (I50 t 42)) then
          if (I50 a51 (Int32.toNatClampNeg (I50 t 42))) = (10 : Int32) then
            fX12_run_b166 (fX12_run_l95 σ R t n) σ R t I50 J (some t) (I50 t 66) (1 : Int32)
          else
            fX12_run_b166 (fX12_run_l95 σ R t n) σ R t I50 J (some t) (I50 t 66) (0 : Int32)
          else none
          else none
        else
          ((R t 34) : Option Nat).bind fun a41 =>
          if kdx σ a41 = 20 then
          if ¬ ((((40 : Int32) * (I t 57)) + (I t 58)) < 0 ∨ lnx σ a41 ≤ Int32.toNatClampNeg (((40 : Int32) * (I t 57)) + (I t 58))) then
          if (I a41 (Int32.toNatClampNeg (((40 : Int32) * (I t 57)) + (I t 58)))) = 0 then
            (fX12_close σ I J R t).bind fun (I47, J48) =>
            fX12_run_l95 σ R t n I47 J48
          else
            (fX12_begin σ I J R t (I a41 (Int32.toNatClampNeg (((40 : Int32) * (I t 57)) + (I t 58))))).bind fun (I44, J45) =>
            fX12_run_l95 σ R t n I44 J45
          else none
          else none
        else none
        else none
      else
        (fX12_unwind σ I J R t).bind fun (I66, J67) =>
        fX12_run_l95 σ R t n I66 J67
    else none
theorem wX12_run_l95 {G : Gx} {l : Launch} {σ : Shp} {D : Nat → Nat → UInt64} {R : Nat → Nat → Option Nat} {t : Nat} {I9 : Nat → Nat → Int32} {J9 : Nat → Nat → Int64} {r9 : Int32} : ∀ (n : Nat) (I : Nat → Nat → Int32) (J : Nat → Nat → Int64), fX12_run_l95 σ R t n I J = some (I9, J9, r9) → WX12_run G l σ (σ, I9, J9, D, R) (some (vI r9)) (σ, I, J, D, R) 95 [(0, vR (some t))] [] := by
  intro n
  induction n with
  | zero =>
    intro I J h
    have h : none = some _ := h
    cases h
  | succ n ih =>
    intro I J h
    rw [fX12_run_l95] at h
    refine r_aload_n (pc := 95) dX12_run_95 rfl 0 rfl ?_
    obtain ⟨g20, h⟩ := gd h
    refine r_getI (pc := 96) dX12_run_96 fgX12_512 rfl g20 ?_
    refine r_if_le (pc := 99) (tgt := 252) dX12_run_99 rfl (fun c => ?_) (fun c => ?_)
    · have h := it h c
      refine r_aload_n (pc := 252) dX12_run_252 rfl 0 rfl ?_
      refine r_getI (pc := 253) dX12_run_253 fgX12_491 rfl g20 ?_
      refine r_iconst (pc := 256) dX12_run_256 kc_iconst_1 ?_
      refine r_icmp_ne (pc := 257) (tgt := 264) dX12_run_257 rfl (fun c => ?_) (fun c => ?_)
      · have h := ie h c
        refine r_iconst (pc := 264) dX12_run_264 kc_iconst_0 ?_
        refine r_sub [0] rfl ?_
        exact wX12_run_b265 h
      · have h := it h c
        refine r_iconst (pc := 260) dX12_run_260 kc_iconst_1 ?_
        refine r_goto (pc := 261) (tgt := 265) dX12_run_261 rfl ?_
        refine r_sub [0] rfl ?_
        exact wX12_run_b265 h
    · have h := ie h c
      refine r_aload_n (pc := 102) dX12_run_102 rfl 0 rfl ?_
      refine r_getI (pc := 103) dX12_run_103 fgX12_491 rfl g20 ?_
      refine r_if_eq (pc := 106) (tgt := 116) dX12_run_106 rfl (fun c => ?_) (fun c => ?_)
      · have h := it h c
        refine r_aload_n (pc := 116) dX12_run_116 rfl 0 rfl ?_
        refine r_getI (pc := 117) dX12_run_117 fgX12_500 rfl g20 ?_
        refine r_aload_n (pc := 120) dX12_run_120 rfl 0 rfl ?_
        obtain ⟨a38, ha38, h⟩ := ob h
        refine r_getS (pc := 121) dX12_run_121 fgX12_74 rfl g20 ha38 ?_
        refine r_aload_n (pc := 124) dX12_run_124 rfl 0 rfl ?_
        refine r_getI (pc := 125) dX12_run_125 fgX12_515 rfl g20 ?_
        obtain ⟨g39, h⟩ := gd h
        obtain ⟨g40, h⟩ := gd h
        refine r_iaload (pc := 128) dX12_run_128 g39 g40 ?_
        refine r_icmp_ne (pc := 129) (tgt := 201) dX12_run_129 rfl (fun c => ?_) (fun c => ?_)
        · have h := ie h c
          refine r_aload_n (pc := 201) dX12_run_201 rfl 0 rfl ?_
          obtain ⟨a41, ha41, h⟩ := ob h
          refine r_getS (pc := 202) dX12_run_202 fgX12_77 rfl g20 ha41 ?_
          refine r_bipush (pc := 205) dX12_run_205 kc_bipush_40 ?_
          refine r_aload_n (pc := 207) dX12_run_207 rfl 0 rfl ?_
          refine r_getI (pc := 208) dX12_run_208 fgX12_515 rfl g20 ?_
          refine r_imul (pc := 211) dX12_run_211 ?_
          refine r_aload_n (pc := 212) dX12_run_212 rfl 0 rfl ?_
          refine r_getI (pc := 213) dX12_run_213 fgX12_500 rfl g20 ?_
          refine r_iadd (pc := 216) dX12_run_216 ?_
          obtain ⟨g42, h⟩ := gd h
          obtain ⟨g43, h⟩ := gd h
          refine r_iaload (pc := 217) dX12_run_217 g42 g43 ?_
          refine r_ifne (pc := 218) (tgt := 228) dX12_run_218 rfl (fun c => ?_) (fun c => ?_)
          · have h := ie h c
            refine r_aload_n (pc := 228) dX12_run_228 rfl 0 rfl ?_
            refine r_aload_n (pc := 229) dX12_run_229 rfl 0 rfl ?_
            refine r_getS (pc := 230) dX12_run_230 fgX12_77 rfl g20 ha41 ?_
            refine r_bipush (pc := 233) dX12_run_233 kc_bipush_40 ?_
            refine r_aload_n (pc := 235) dX12_run_235 rfl 0 rfl ?_
            refine r_getI (pc := 236) dX12_run_236 fgX12_515 rfl g20 ?_
            refine r_imul (pc := 239) dX12_run_239 ?_
            refine r_aload_n (pc := 240) dX12_run_240 rfl 0 rfl ?_
            refine r_getI (pc := 241) dX12_run_241 fgX12_500 rfl g20 ?_
            refine r_iadd (pc := 244) dX12_run_244 ?_
            refine r_iaload (pc := 245) dX12_run_245 g42 g43 ?_
            obtain ⟨⟨I44, J45⟩, hc46, h⟩ := ob h
            refine r_callV0 (pc := 246) (av := [vI (I a41 (Int32.toNatClampNeg (((40 : Int32) * (I t 57)) + (I t 58))))]) (S := []) dX12_run_246 (kX12_begin hc46) g20 rfl mkX12_600 mwX12_begin rfl ⟨Nat.le_of_ble_eq_true rfl, Nat.le_of_ble_eq_true rfl⟩ (Nat.le_of_ble_eq_true rfl) ⟨Nat.le_refl _, Nat.le_refl _⟩ (fun b => b) ?_
            refine r_goto (pc := 249) (tgt := 95) dX12_run_249 rfl ?_
            refine r_sub [0] rfl ?_
            exact ih _ _ h
          · have h := it h c
            refine r_aload_n (pc := 221) dX12_run_221 rfl 0 rfl ?_
            obtain ⟨⟨I47, J48⟩, hc49, h⟩ := ob h
            refine r_callV0 (pc := 222) (av := []) (S := []) dX12_run_222 (kX12_close hc49) g20 rfl mkX12_597 mwX12_close rfl ⟨Nat.le_of_ble_eq_true rfl, Nat.le_of_ble_eq_true rfl⟩ (Nat.le_of_ble_eq_true rfl) ⟨Nat.le_refl _, Nat.le_refl _⟩ (fun b => b) ?_
            refine r_goto (pc := 225) (tgt := 95) dX12_run_225 rfl ?_
            refine r_sub [0] rfl ?_
            exact ih _ _ h
        · have h := it h c
          refine r_aload_n (pc := 132) dX12_run_132 rfl 0 rfl ?_
          refine r_dup (pc := 133) dX12_run_133 rfl ?_
          refine r_getI (pc := 134) dX12_run_134 fgX12_512 rfl g20 ?_
          refine r_iconst (pc := 137) dX12_run_137 kc_iconst_1 ?_
          refine r_isub (pc := 138) dX12_run_138 ?_
          refine r_putI (pc := 139) dX12_run_139 fwX12_512 rfl g20 ?_
          refine r_aload_n (pc := 142) dX12_run_142 rfl 0 rfl ?_
          refine r_dup (pc := 143) dX12_run_143 rfl ?_
          refine r_getI (pc := 144) dX12_run_144 fgX12_567 rfl g20 ?_
          refine r_aload_n (pc := 147) dX12_run_147 rfl 0 rfl ?_
          obtain ⟨a51, ha51, h⟩ := ob h
          refine r_getS (pc := 148) dX12_run_148 fgX12_101 rfl g20 ha51 ?_
          refine r_aload_n (pc := 151) dX12_run_151 rfl 0 rfl ?_
          refine r_getI (pc := 152) dX12_run_152 fgX12_512 rfl g20 ?_
          obtain ⟨g52, h⟩ := gd h
          obtain ⟨g53, h⟩ := gd h
          refine r_iaload (pc := 155) dX12_run_155 g52 g53 ?_
          refine r_bipush (pc := 156) dX12_run_156 kc_bipush_10 ?_
          refine r_icmp_ne (pc := 158) (tgt := 165) dX12_run_158 rfl (fun c => ?_) (fun c => ?_)
          · have h := ie h c
            refine r_iconst (pc := 165) dX12_run_165 kc_iconst_0 ?_
            refine r_sub [0] rfl ?_
            exact wX12_run_b166 ih h
          · have h := it h c
            refine r_iconst (pc := 161) dX12_run_161 kc_iconst_1 ?_
            refine r_goto (pc := 162) (tgt := 166) dX12_run_162 rfl ?_
            refine r_sub [0] rfl ?_
            exact wX12_run_b166 ih h
      · have h := ie h c
        refine r_aload_n (pc := 109) dX12_run_109 rfl 0 rfl ?_
        obtain ⟨⟨I66, J67⟩, hc68, h⟩ := ob h
        refine r_callV0 (pc := 110) (av := []) (S := []) dX12_run_110 (kX12_unwind hc68) g20 rfl mkX12_594 mwX12_unwind rfl ⟨Nat.le_of_ble_eq_true rfl, Nat.le_of_ble_eq_true rfl⟩ (Nat.le_of_ble_eq_true rfl) ⟨Nat.le_refl _, Nat.le_refl _⟩ (fun b => b) ?_
        refine r_goto (pc := 113) (tgt := 95) dX12_run_113 rfl ?_
        refine r_sub [0] rfl ?_
        exact ih _ _ h
def fX12_run (σ : Shp) (I : Nat → Nat → Int32) (J : Nat → Nat → Int64) (R : Nat → Nat → Option Nat) (t : Nat) (x1 : Int32) : Option ((Nat → Nat → Int32) × (Nat → Nat → Int64) × (Int32)) :=
  if (fX12_in x1 (0 : Int32) (3 : Int32)) = 0 then
    some (I, J, (-2 : Int32))
  else
    if kdx σ t = 13 then
    (fX12_wrong σ I R t x1).bind fun (I2, r3) =>
    if r3 = (-1 : Int32) then
      (fX12_isFull σ I2 t).bind fun r5 =>
      if r5 = 0 then
        let I7 := u2 I2 t 59 (0 : Int32)
        let I8 := u2 I7 t 57 x1
        let I9 := u2 I8 t 58 (0 : Int32)
        let I10 := u2 I9 t 65 (0 : Int32)
        let I11 := u2 I10 t 66 (0 : Int32)
        let I12 := u2 I11 t 67 (0 : Int32)
        let I13 := u2 I12 t 68 (0 : Int32)
        let I14 := u2 I13 t 69 (0 : Int32)
        let I15 := u2 I14 t 70 (0 : Int32)
        let I16 := u2 I15 t 54 (0 : Int32)
        let I17 := u2 I16 t 42 (0 : Int32)
        (fX12_push σ I17 R t (21 : Int32)).bind fun I18 =>
        fX12_run_l95 σ R t FUx I18 J
      else
        some (I2, J, (-4 : Int32))
    else
      some (I2, J, (-3 : Int32))
    else none
theorem kX12_run {G : Gx} {l : Launch} {σ : Shp} {I : Nat → Nat → Int32} {J : Nat → Nat → Int64} {D : Nat → Nat → UInt64} {R : Nat → Nat → Option Nat} {t : Nat} {x1 : Int32} {I9 : Nat → Nat → Int32} {J9 : Nat → Nat → Int64} {r9 : Int32} (h : fX12_run σ I J R t x1 = some (I9, J9, r9)) : Con G l yX12_run cX12_run 3 (some .int) 8 184 [vR (some t), vI x1] (σ, I, J, D, R) (σ, I9, J9, D, R) (some (vI r9)) := by
  unfold fX12_run at h
  refine Con.mk (by decide +kernel) rfl (Nat.le_of_ble_eq_true rfl) ?_
  show WX12_run G l σ (σ, I9, J9, D, R) (some (vI r9)) (σ, I, J, D, R) 0 _ []
  refine r_iload_n (pc := 0) dX12_run_0 rfl 1 rfl ?_
  refine r_iconst (pc := 1) dX12_run_1 kc_iconst_0 ?_
  refine r_iconst (pc := 2) dX12_run_2 kc_iconst_3 ?_
  refine r_callS1 (pc := 3) (av := [vI x1, vI (0 : Int32), vI (3 : Int32)]) (S := []) dX12_run_3 (kX12_in rfl) mkX12_322 mwX12_in rfl ⟨Nat.le_of_ble_eq_true rfl, Nat.le_of_ble_eq_true rfl⟩ (Nat.le_of_ble_eq_true rfl) ⟨Nat.le_refl _, Nat.le_refl _⟩ (fun b => b) ?_
  refine r_ifne (pc := 6) (tgt := 12) dX12_run_6 rfl (fun c => ?_) (fun c => ?_)
  · have h := ie h c
    refine r_aload_n (pc := 12) dX12_run_12 rfl 0 rfl ?_
    refine r_iload_n (pc := 13) dX12_run_13 rfl 1 rfl ?_
    obtain ⟨g1, h⟩ := gd h
    obtain ⟨⟨I2, r3⟩, hc4, h⟩ := ob h
    refine r_callV1 (pc := 14) (av := [vI x1]) (S := []) dX12_run_14 (kX12_wrong hc4) g1 rfl mkX12_481 mwX12_wrong rfl ⟨Nat.le_of_ble_eq_true rfl, Nat.le_of_ble_eq_true rfl⟩ (Nat.le_of_ble_eq_true rfl) ⟨Nat.le_refl _, Nat.le_refl _⟩ (fun b => b) ?_
    refine r_iconst (pc := 17) dX12_run_17 kc_iconst_m1 ?_
    refine r_icmp_eq (pc := 18) (tgt := 24) dX12_run_18 rfl (fun c => ?_) (fun c => ?_)
    · have h := it h c
      refine r_aload_n (pc := 24) dX12_run_24 rfl 0 rfl ?_
      obtain ⟨r5, hc6, h⟩ := ob h
      refine r_callV1 (pc := 25) (av := []) (S := []) dX12_run_25 (kX12_isFull hc6) g1 rfl mkX12_349 mwX12_isFull rfl ⟨Nat.le_of_ble_eq_true rfl, Nat.le_of_ble_eq_true rfl⟩ (Nat.le_of_ble_eq_true rfl) ⟨Nat.le_refl _, Nat.le_refl _⟩ (fun b => b) ?_
      refine r_if_eq (pc := 28) (tgt := 34) dX12_run_28 rfl (fun c => ?_) (fun c => ?_)
      · have h := it h c
        refine r_aload_n (pc := 34) dX12_run_34 rfl 0 rfl ?_
        refine r_iconst (pc := 35) dX12_run_35 kc_iconst_0 ?_
        refine r_putI (pc := 36) dX12_run_36 fwX12_491 rfl g1 ?_
        refine r_aload_n (pc := 39) dX12_run_39 rfl 0 rfl ?_
        refine r_iload_n (pc := 40) dX12_run_40 rfl 1 rfl ?_
        refine r_putI (pc := 41) dX12_run_41 fwX12_515 rfl g1 ?_
        refine r_aload_n (pc := 44) dX12_run_44 rfl 0 rfl ?_
        refine r_iconst (pc := 45) dX12_run_45 kc_iconst_0 ?_
        refine r_putI (pc := 46) dX12_run_46 fwX12_500 rfl g1 ?_
        refine r_aload_n (pc := 49) dX12_run_49 rfl 0 rfl ?_
        refine r_iconst (pc := 50) dX12_run_50 kc_iconst_0 ?_
        refine r_putI (pc := 51) dX12_run_51 fwX12_546 rfl g1 ?_
        refine r_aload_n (pc := 54) dX12_run_54 rfl 0 rfl ?_
        refine r_iconst (pc := 55) dX12_run_55 kc_iconst_0 ?_
        refine r_putI (pc := 56) dX12_run_56 fwX12_567 rfl g1 ?_
        refine r_aload_n (pc := 59) dX12_run_59 rfl 0 rfl ?_
        refine r_iconst (pc := 60) dX12_run_60 kc_iconst_0 ?_
        refine r_putI (pc := 61) dX12_run_61 fwX12_579 rfl g1 ?_
        refine r_aload_n (pc := 64) dX12_run_64 rfl 0 rfl ?_
        refine r_iconst (pc := 65) dX12_run_65 kc_iconst_0 ?_
        refine r_putI (pc := 66) dX12_run_66 fwX12_570 rfl g1 ?_
        refine r_aload_n (pc := 69) dX12_run_69 rfl 0 rfl ?_
        refine r_iconst (pc := 70) dX12_run_70 kc_iconst_0 ?_
        refine r_putI (pc := 71) dX12_run_71 fwX12_534 rfl g1 ?_
        refine r_aload_n (pc := 74) dX12_run_74 rfl 0 rfl ?_
        refine r_iconst (pc := 75) dX12_run_75 kc_iconst_0 ?_
        refine r_putI (pc := 76) dX12_run_76 fwX12_509 rfl g1 ?_
        refine r_aload_n (pc := 79) dX12_run_79 rfl 0 rfl ?_
        refine r_iconst (pc := 80) dX12_run_80 kc_iconst_0 ?_
        refine r_putI (pc := 81) dX12_run_81 fwX12_484 rfl g1 ?_
        refine r_aload_n (pc := 84) dX12_run_84 rfl 0 rfl ?_
        refine r_iconst (pc := 85) dX12_run_85 kc_iconst_0 ?_
        refine r_putI (pc := 86) dX12_run_86 fwX12_512 rfl g1 ?_
        refine r_aload_n (pc := 89) dX12_run_89 rfl 0 rfl ?_
        refine r_bipush (pc := 90) dX12_run_90 kc_bipush_21 ?_
        obtain ⟨I18, hc19, h⟩ := ob h
        refine r_callV0 (pc := 92) (av := [vI (21 : Int32)]) (S := []) dX12_run_92 (kX12_push hc19) g1 rfl mkX12_531 mwX12_push rfl ⟨Nat.le_of_ble_eq_true rfl, Nat.le_of_ble_eq_true rfl⟩ (Nat.le_of_ble_eq_true rfl) ⟨Nat.le_refl _, Nat.le_refl _⟩ (fun b => b) ?_
        refine r_sub [0] rfl ?_
        exact wX12_run_l95 _ _ _ h
      · have h := ie h c
        refine r_bipush (pc := 31) dX12_run_31 kc_bipush_m4 ?_
        cases h
        exact r_iret dX12_run_33
    · have h := ie h c
      refine r_bipush (pc := 21) dX12_run_21 kc_bipush_m3 ?_
      cases h
      exact r_iret dX12_run_23
  · have h := it h c
    refine r_bipush (pc := 9) dX12_run_9 kc_bipush_m2 ?_
    cases h
    exact r_iret dX12_run_11
abbrev WX12_ran (G : Gx) (l : Launch) (σ0 : Shp) (X1 : Stt) (rv : Option SV) : Stt → Nat → List (Nat × SV) → List SV → Prop := Wm G l yX12_ran cX12_ran 2 (some .int) (fun _ => True) (rmx 0 0 σ0 X1.1) σ0 (Qmx G σ0 X1 rv)
def fX12_ran (σ : Shp) (I : Nat → Nat → Int32) (t : Nat) (x1 : Int32) : Option ((Int32)) :=
  if x1 = (0 : Int32) then
    if kdx σ t = 13 then
    some (I t 74)
    else none
  else
  if x1 = (1 : Int32) then
    if kdx σ t = 13 then
    some (I t 65)
    else none
  else
  if x1 = (2 : Int32) then
    if kdx σ t = 13 then
    some (I t 71)
    else none
  else
  if x1 = (3 : Int32) then
    if kdx σ t = 13 then
    some (I t 72)
    else none
  else
  if x1 = (4 : Int32) then
    if kdx σ t = 13 then
    some (I t 67)
    else none
  else
  if x1 = (5 : Int32) then
    if kdx σ t = 13 then
    some (I t 68)
    else none
  else
  if x1 = (6 : Int32) then
    if kdx σ t = 13 then
    some (I t 69)
    else none
  else
  if x1 = (7 : Int32) then
    if kdx σ t = 13 then
    some (I t 73)
    else none
  else
  if x1 = (8 : Int32) then
    if kdx σ t = 13 then
    some (I t 70)
    else none
  else
  some (-2 : Int32)
theorem kX12_ran {G : Gx} {l : Launch} {σ : Shp} {I : Nat → Nat → Int32} {J : Nat → Nat → Int64} {D : Nat → Nat → UInt64} {R : Nat → Nat → Option Nat} {t : Nat} {x1 : Int32} {r9 : Int32} (h : fX12_ran σ I t x1 = some r9) : Con G l yX12_ran cX12_ran 2 (some .int) 0 0 [vR (some t), vI x1] (σ, I, J, D, R) (σ, I, J, D, R) (some (vI r9)) := by
  unfold fX12_ran at h
  refine Con.mk (by decide +kernel) rfl (Nat.le_of_ble_eq_true rfl) ?_
  show WX12_ran G l σ (σ, I, J, D, R) (some (vI r9)) (σ, I, J, D, R) 0 _ []
  refine r_iload_n (pc := 0) dX12_ran_0 rfl 1 rfl ?_
  rcases itc h with ⟨c1, h⟩ | ⟨c1, h⟩
  · refine r_tsIn (x := x1) (pc := 1) (tgt := 52) dX12_ran_1 (by rw [c1]; decide) (by rw [c1]; decide) (by rw [c1]; rfl) rfl ?_
    refine r_aload_n (pc := 52) dX12_ran_52 rfl 0 rfl ?_
    obtain ⟨g18, h⟩ := gd h
    refine r_getI (pc := 53) dX12_ran_53 fgX12_609 rfl g18 ?_
    cases h
    exact r_iret dX12_ran_56
  · rcases itc h with ⟨c2, h⟩ | ⟨c2, h⟩
    · refine r_tsIn (x := x1) (pc := 1) (tgt := 57) dX12_ran_1 (by rw [c2]; decide) (by rw [c2]; decide) (by rw [c2]; rfl) rfl ?_
      refine r_aload_n (pc := 57) dX12_ran_57 rfl 0 rfl ?_
      obtain ⟨g17, h⟩ := gd h
      refine r_getI (pc := 58) dX12_ran_58 fgX12_546 rfl g17 ?_
      cases h
      exact r_iret dX12_ran_61
    · rcases itc h with ⟨c3, h⟩ | ⟨c3, h⟩
      · refine r_tsIn (x := x1) (pc := 1) (tgt := 62) dX12_ran_1 (by rw [c3]; decide) (by rw [c3]; decide) (by rw [c3]; rfl) rfl ?_
        refine r_aload_n (pc := 62) dX12_ran_62 rfl 0 rfl ?_
        obtain ⟨g16, h⟩ := gd h
        refine r_getI (pc := 63) dX12_ran_63 fgX12_140 rfl g16 ?_
        cases h
        exact r_iret dX12_ran_66
      · rcases itc h with ⟨c4, h⟩ | ⟨c4, h⟩
        · refine r_tsIn (x := x1) (pc := 1) (tgt := 67) dX12_ran_1 (by rw [c4]; decide) (by rw [c4]; decide) (by rw [c4]; rfl) rfl ?_
          refine r_aload_n (pc := 67) dX12_ran_67 rfl 0 rfl ?_
          obtain ⟨g15, h⟩ := gd h
          refine r_getI (pc := 68) dX12_ran_68 fgX12_603 rfl g15 ?_
          cases h
          exact r_iret dX12_ran_71
        · rcases itc h with ⟨c5, h⟩ | ⟨c5, h⟩
          · refine r_tsIn (x := x1) (pc := 1) (tgt := 72) dX12_ran_1 (by rw [c5]; decide) (by rw [c5]; decide) (by rw [c5]; rfl) rfl ?_
            refine r_aload_n (pc := 72) dX12_ran_72 rfl 0 rfl ?_
            obtain ⟨g14, h⟩ := gd h
            refine r_getI (pc := 73) dX12_ran_73 fgX12_579 rfl g14 ?_
            cases h
            exact r_iret dX12_ran_76
          · rcases itc h with ⟨c6, h⟩ | ⟨c6, h⟩
            · refine r_tsIn (x := x1) (pc := 1) (tgt := 77) dX12_ran_1 (by rw [c6]; decide) (by rw [c6]; decide) (by rw [c6]; rfl) rfl ?_
              refine r_aload_n (pc := 77) dX12_ran_77 rfl 0 rfl ?_
              obtain ⟨g13, h⟩ := gd h
              refine r_getI (pc := 78) dX12_ran_78 fgX12_570 rfl g13 ?_
              cases h
              exact r_iret dX12_ran_81
            · rcases itc h with ⟨c7, h⟩ | ⟨c7, h⟩
              · refine r_tsIn (x := x1) (pc := 1) (tgt := 82) dX12_ran_1 (by rw [c7]; decide) (by rw [c7]; decide) (by rw [c7]; rfl) rfl ?_
                refine r_aload_n (pc := 82) dX12_ran_82 rfl 0 rfl ?_
                obtain ⟨g12, h⟩ := gd h
                refine r_getI (pc := 83) dX12_ran_83 fgX12_534 rfl g12 ?_
                cases h
                exact r_iret dX12_ran_86
              · rcases itc h with ⟨c8, h⟩ | ⟨c8, h⟩
                · refine r_tsIn (x := x1) (pc := 1) (tgt := 87) dX12_ran_1 (by rw [c8]; decide) (by rw [c8]; decide) (by rw [c8]; rfl) rfl ?_
                  refine r_aload_n (pc := 87) dX12_ran_87 rfl 0 rfl ?_
                  obtain ⟨g11, h⟩ := gd h
                  refine r_getI (pc := 88) dX12_ran_88 fgX12_606 rfl g11 ?_
                  cases h
                  exact r_iret dX12_ran_91
                · rcases itc h with ⟨c9, h⟩ | ⟨c9, h⟩
                  · refine r_tsIn (x := x1) (pc := 1) (tgt := 92) dX12_ran_1 (by rw [c9]; decide) (by rw [c9]; decide) (by rw [c9]; rfl) rfl ?_
                    refine r_aload_n (pc := 92) dX12_ran_92 rfl 0 rfl ?_
                    obtain ⟨g10, h⟩ := gd h
                    refine r_getI (pc := 93) dX12_ran_93 fgX12_509 rfl g10 ?_
                    cases h
                    exact r_iret dX12_ran_96
                  · refine r_tsOut (x := x1) (pc := 1) (tgt := 97) dX12_ran_1 (by have ec1 := i32n c1 (k := 0) rfl; have ec2 := i32n c2 (k := 1) rfl; have ec3 := i32n c3 (k := 2) rfl; have ec4 := i32n c4 (k := 3) rfl; have ec5 := i32n c5 (k := 4) rfl; have ec6 := i32n c6 (k := 5) rfl; have ec7 := i32n c7 (k := 6) rfl; have ec8 := i32n c8 (k := 7) rfl; have ec9 := i32n c9 (k := 8) rfl; omega) rfl ?_
                    refine r_bipush (pc := 97) dX12_ran_97 kc_bipush_m2 ?_
                    cases h
                    exact r_iret dX12_ran_99
abbrev WX12_stock (G : Gx) (l : Launch) (σ0 : Shp) (X1 : Stt) (rv : Option SV) : Stt → Nat → List (Nat × SV) → List SV → Prop := Wm G l yX12_stock cX12_stock 2 (some .long) (fun _ => True) (rmx 1 22 σ0 X1.1) σ0 (Qmx G σ0 X1 rv)
def fX12_stock (σ : Shp) (J : Nat → Nat → Int64) (R : Nat → Nat → Option Nat) (t : Nat) (x1 : Int32) : Option ((Int64)) :=
  if (fX12_in x1 (0 : Int32) (5 : Int32)) = 0 then
    some (0 : Int64)
  else
    if kdx σ t = 13 then
    ((R t 38) : Option Nat).bind fun a2 =>
    if kdx σ a2 = 21 then
    if ¬ (x1 < 0 ∨ lnx σ a2 ≤ Int32.toNatClampNeg x1) then
    some (J a2 (Int32.toNatClampNeg x1))
    else none
    else none
    else none
theorem kX12_stock {G : Gx} {l : Launch} {σ : Shp} {I : Nat → Nat → Int32} {J : Nat → Nat → Int64} {D : Nat → Nat → UInt64} {R : Nat → Nat → Option Nat} {t : Nat} {x1 : Int32} {r9 : Int64} (h : fX12_stock σ J R t x1 = some r9) : Con G l yX12_stock cX12_stock 2 (some .long) 1 22 [vR (some t), vI x1] (σ, I, J, D, R) (σ, I, J, D, R) (some (vL r9)) := by
  unfold fX12_stock at h
  refine Con.mk (by decide +kernel) rfl (Nat.le_of_ble_eq_true rfl) ?_
  show WX12_stock G l σ (σ, I, J, D, R) (some (vL r9)) (σ, I, J, D, R) 0 _ []
  refine r_iload_n (pc := 0) dX12_stock_0 rfl 1 rfl ?_
  refine r_iconst (pc := 1) dX12_stock_1 kc_iconst_0 ?_
  refine r_iconst (pc := 2) dX12_stock_2 kc_iconst_5 ?_
  refine r_callS1 (pc := 3) (av := [vI x1, vI (0 : Int32), vI (5 : Int32)]) (S := []) dX12_stock_3 (kX12_in rfl) mkX12_322 mwX12_in rfl ⟨Nat.le_of_ble_eq_true rfl, Nat.le_of_ble_eq_true rfl⟩ (Nat.le_of_ble_eq_true rfl) ⟨Nat.le_refl _, Nat.le_refl _⟩ (fun b => b) ?_
  refine r_if_eq (pc := 6) (tgt := 18) dX12_stock_6 rfl (fun c => ?_) (fun c => ?_)
  · have h := it h c
    refine r_lconst (pc := 18) dX12_stock_18 kc_lconst_0 ?_
    cases h
    exact r_lret dX12_stock_19
  · have h := ie h c
    refine r_aload_n (pc := 9) dX12_stock_9 rfl 0 rfl ?_
    obtain ⟨g1, h⟩ := gd h
    obtain ⟨a2, ha2, h⟩ := ob h
    refine r_getS (pc := 10) dX12_stock_10 fgX12_89 rfl g1 ha2 ?_
    refine r_iload_n (pc := 13) dX12_stock_13 rfl 1 rfl ?_
    obtain ⟨g3, h⟩ := gd h
    obtain ⟨g4, h⟩ := gd h
    refine r_laload (pc := 14) dX12_stock_14 g3 g4 ?_
    refine r_goto (pc := 15) (tgt := 19) dX12_stock_15 rfl ?_
    cases h
    exact r_lret dX12_stock_19
abbrev WX12_setStock (G : Gx) (l : Launch) (σ0 : Shp) (X1 : Stt) (rv : Option SV) : Stt → Nat → List (Nat × SV) → List SV → Prop := Wm G l yX12_setStock cX12_setStock 4 (some .int) (fun _ => True) (rmx 1 22 σ0 X1.1) σ0 (Qmx G σ0 X1 rv)
def fX12_setStock (σ : Shp) (J : Nat → Nat → Int64) (R : Nat → Nat → Option Nat) (t : Nat) (x1 : Int32) (x2 : Int64) : Option ((Nat → Nat → Int64) × (Int32)) :=
  if (fX12_in x1 (0 : Int32) (5 : Int32)) = 0 then
    some (J, (-2 : Int32))
  else
    if kdx σ t = 13 then
    ((R t 38) : Option Nat).bind fun a2 =>
    if kdx σ a2 = 21 then
    if ¬ (x1 < 0 ∨ lnx σ a2 ≤ Int32.toNatClampNeg x1) then
    let J5 := u2 J a2 (Int32.toNatClampNeg x1) x2
    some (J5, (1 : Int32))
    else none
    else none
    else none
theorem kX12_setStock {G : Gx} {l : Launch} {σ : Shp} {I : Nat → Nat → Int32} {J : Nat → Nat → Int64} {D : Nat → Nat → UInt64} {R : Nat → Nat → Option Nat} {t : Nat} {x1 : Int32} {x2 : Int64} {J9 : Nat → Nat → Int64} {r9 : Int32} (h : fX12_setStock σ J R t x1 x2 = some (J9, r9)) : Con G l yX12_setStock cX12_setStock 4 (some .int) 1 22 [vR (some t), vI x1, vL x2] (σ, I, J, D, R) (σ, I, J9, D, R) (some (vI r9)) := by
  unfold fX12_setStock at h
  refine Con.mk (by decide +kernel) rfl (Nat.le_of_ble_eq_true rfl) ?_
  show WX12_setStock G l σ (σ, I, J9, D, R) (some (vI r9)) (σ, I, J, D, R) 0 _ []
  refine r_iload_n (pc := 0) dX12_setStock_0 rfl 1 rfl ?_
  refine r_iconst (pc := 1) dX12_setStock_1 kc_iconst_0 ?_
  refine r_iconst (pc := 2) dX12_setStock_2 kc_iconst_5 ?_
  refine r_callS1 (pc := 3) (av := [vI x1, vI (0 : Int32), vI (5 : Int32)]) (S := []) dX12_setStock_3 (kX12_in rfl) mkX12_322 mwX12_in rfl ⟨Nat.le_of_ble_eq_true rfl, Nat.le_of_ble_eq_true rfl⟩ (Nat.le_of_ble_eq_true rfl) ⟨Nat.le_refl _, Nat.le_refl _⟩ (fun b => b) ?_
  refine r_ifne (pc := 6) (tgt := 12) dX12_setStock_6 rfl (fun c => ?_) (fun c => ?_)
  · have h := ie h c
    refine r_aload_n (pc := 12) dX12_setStock_12 rfl 0 rfl ?_
    obtain ⟨g1, h⟩ := gd h
    obtain ⟨a2, ha2, h⟩ := ob h
    refine r_getS (pc := 13) dX12_setStock_13 fgX12_89 rfl g1 ha2 ?_
    refine r_iload_n (pc := 16) dX12_setStock_16 rfl 1 rfl ?_
    refine r_lload_n (pc := 17) dX12_setStock_17 rfl 2 rfl ?_
    obtain ⟨g3, h⟩ := gd h
    obtain ⟨g4, h⟩ := gd h
    refine r_lastore (pc := 18) dX12_setStock_18 g3 g4 ?_
    refine r_iconst (pc := 19) dX12_setStock_19 kc_iconst_1 ?_
    cases h
    exact r_iret dX12_setStock_20
  · have h := it h c
    refine r_bipush (pc := 9) dX12_setStock_9 kc_bipush_m2 ?_
    cases h
    exact r_iret dX12_setStock_11
abbrev WX12_valve (G : Gx) (l : Launch) (σ0 : Shp) (X1 : Stt) (rv : Option SV) : Stt → Nat → List (Nat × SV) → List SV → Prop := Wm G l yX12_valve cX12_valve 3 (some .int) (fun _ => True) (rmx 1 22 σ0 X1.1) σ0 (Qmx G σ0 X1 rv)
def fX12_valve (σ : Shp) (I : Nat → Nat → Int32) (R : Nat → Nat → Option Nat) (t : Nat) (x1 : Int32) (x2 : Int32) : Option ((Int32)) :=
  if (fX12_in x1 (0 : Int32) (2 : Int32)) = 0 then
    some (0 : Int32)
  else
    if (fX12_in x2 (0 : Int32) (1 : Int32)) = 0 then
      some (0 : Int32)
    else
      if x2 = 0 then
        if kdx σ t = 13 then
        ((R t 39) : Option Nat).bind fun a6 =>
        if kdx σ a6 = 20 then
        if ¬ (x1 < 0 ∨ lnx σ a6 ≤ Int32.toNatClampNeg x1) then
        some (I a6 (Int32.toNatClampNeg x1))
        else none
        else none
        else none
      else
        if kdx σ t = 13 then
        ((R t 40) : Option Nat).bind fun a2 =>
        if kdx σ a2 = 20 then
        if ¬ (x1 < 0 ∨ lnx σ a2 ≤ Int32.toNatClampNeg x1) then
        some (I a2 (Int32.toNatClampNeg x1))
        else none
        else none
        else none
theorem kX12_valve {G : Gx} {l : Launch} {σ : Shp} {I : Nat → Nat → Int32} {J : Nat → Nat → Int64} {D : Nat → Nat → UInt64} {R : Nat → Nat → Option Nat} {t : Nat} {x1 : Int32} {x2 : Int32} {r9 : Int32} (h : fX12_valve σ I R t x1 x2 = some r9) : Con G l yX12_valve cX12_valve 3 (some .int) 1 22 [vR (some t), vI x1, vI x2] (σ, I, J, D, R) (σ, I, J, D, R) (some (vI r9)) := by
  unfold fX12_valve at h
  refine Con.mk (by decide +kernel) rfl (Nat.le_of_ble_eq_true rfl) ?_
  show WX12_valve G l σ (σ, I, J, D, R) (some (vI r9)) (σ, I, J, D, R) 0 _ []
  refine r_iload_n (pc := 0) dX12_valve_0 rfl 1 rfl ?_
  refine r_iconst (pc := 1) dX12_valve_1 kc_iconst_0 ?_
  refine r_iconst (pc := 2) dX12_valve_2 kc_iconst_2 ?_
  refine r_callS1 (pc := 3) (av := [vI x1, vI (0 : Int32), vI (2 : Int32)]) (S := []) dX12_valve_3 (kX12_in rfl) mkX12_322 mwX12_in rfl ⟨Nat.le_of_ble_eq_true rfl, Nat.le_of_ble_eq_true rfl⟩ (Nat.le_of_ble_eq_true rfl) ⟨Nat.le_refl _, Nat.le_refl _⟩ (fun b => b) ?_
  refine r_if_eq (pc := 6) (tgt := 40) dX12_valve_6 rfl (fun c => ?_) (fun c => ?_)
  · have h := it h c
    refine r_iconst (pc := 40) dX12_valve_40 kc_iconst_0 ?_
    cases h
    exact r_iret dX12_valve_41
  · have h := ie h c
    refine r_iload_n (pc := 9) dX12_valve_9 rfl 2 rfl ?_
    refine r_iconst (pc := 10) dX12_valve_10 kc_iconst_0 ?_
    refine r_iconst (pc := 11) dX12_valve_11 kc_iconst_1 ?_
    refine r_callS1 (pc := 12) (av := [vI x2, vI (0 : Int32), vI (1 : Int32)]) (S := []) dX12_valve_12 (kX12_in rfl) mkX12_322 mwX12_in rfl ⟨Nat.le_of_ble_eq_true rfl, Nat.le_of_ble_eq_true rfl⟩ (Nat.le_of_ble_eq_true rfl) ⟨Nat.le_refl _, Nat.le_refl _⟩ (fun b => b) ?_
    refine r_if_eq (pc := 15) (tgt := 40) dX12_valve_15 rfl (fun c => ?_) (fun c => ?_)
    · have h := it h c
      refine r_iconst (pc := 40) dX12_valve_40 kc_iconst_0 ?_
      cases h
      exact r_iret dX12_valve_41
    · have h := ie h c
      refine r_iload_n (pc := 18) dX12_valve_18 rfl 2 rfl ?_
      refine r_ifne (pc := 19) (tgt := 31) dX12_valve_19 rfl (fun c => ?_) (fun c => ?_)
      · have h := ie h c
        refine r_aload_n (pc := 31) dX12_valve_31 rfl 0 rfl ?_
        obtain ⟨g1, h⟩ := gd h
        obtain ⟨a2, ha2, h⟩ := ob h
        refine r_getS (pc := 32) dX12_valve_32 fgX12_95 rfl g1 ha2 ?_
        refine r_iload_n (pc := 35) dX12_valve_35 rfl 1 rfl ?_
        obtain ⟨g3, h⟩ := gd h
        obtain ⟨g4, h⟩ := gd h
        refine r_iaload (pc := 36) dX12_valve_36 g3 g4 ?_
        refine r_goto (pc := 37) (tgt := 41) dX12_valve_37 rfl ?_
        cases h
        exact r_iret dX12_valve_41
      · have h := it h c
        refine r_aload_n (pc := 22) dX12_valve_22 rfl 0 rfl ?_
        obtain ⟨g5, h⟩ := gd h
        obtain ⟨a6, ha6, h⟩ := ob h
        refine r_getS (pc := 23) dX12_valve_23 fgX12_92 rfl g5 ha6 ?_
        refine r_iload_n (pc := 26) dX12_valve_26 rfl 1 rfl ?_
        obtain ⟨g7, h⟩ := gd h
        obtain ⟨g8, h⟩ := gd h
        refine r_iaload (pc := 27) dX12_valve_27 g7 g8 ?_
        refine r_goto (pc := 28) (tgt := 41) dX12_valve_28 rfl ?_
        cases h
        exact r_iret dX12_valve_41
abbrev WX12_isTable (G : Gx) (l : Launch) (σ0 : Shp) (X1 : Stt) (rv : Option SV) : Stt → Nat → List (Nat × SV) → List SV → Prop := Wm G l yX12_isTable cX12_isTable 1 (some .boolean) (fun _ => True) (rmx 0 0 σ0 X1.1) σ0 (Qmx G σ0 X1 rv)
def fX12_isTable  (x0 : Int32) : (Int32) :=
  if x0 < 0 then
    (0 : Int32)
  else
    if (2 : Int32) < x0 then
      (0 : Int32)
    else
      (1 : Int32)
theorem zX12_isTable  (x0 : Int32) : fX12_isTable x0 = 0 ∨ fX12_isTable x0 = 1 := by
  unfold fX12_isTable
  repeat' (first | refine itz ?_ ?_ | exact Or.inl rfl | exact Or.inr rfl)
theorem kX12_isTable {G : Gx} {l : Launch} {σ : Shp} {I : Nat → Nat → Int32} {J : Nat → Nat → Int64} {D : Nat → Nat → UInt64} {R : Nat → Nat → Option Nat} {x0 : Int32} {r9 : Int32} (h : fX12_isTable x0 = r9) : Con G l yX12_isTable cX12_isTable 1 (some .boolean) 0 0 [vI x0] (σ, I, J, D, R) (σ, I, J, D, R) (some (vI r9)) := by
  unfold fX12_isTable at h
  refine Con.mk (by decide +kernel) rfl (Nat.le_of_ble_eq_true rfl) ?_
  show WX12_isTable G l σ (σ, I, J, D, R) (some (vI r9)) (σ, I, J, D, R) 0 _ []
  refine r_iload_n (pc := 0) dX12_isTable_0 rfl 0 rfl ?_
  refine r_if_lt (pc := 1) (tgt := 13) dX12_isTable_1 rfl (fun c => ?_) (fun c => ?_)
  · have h := it h c
    refine r_iconst (pc := 13) dX12_isTable_13 kc_iconst_0 ?_
    subst h
    exact r_zret dX12_isTable_14 (Or.inl rfl)
  · have h := ie h c
    refine r_iload_n (pc := 4) dX12_isTable_4 rfl 0 rfl ?_
    refine r_iconst (pc := 5) dX12_isTable_5 kc_iconst_2 ?_
    refine r_icmp_gt (pc := 6) (tgt := 13) dX12_isTable_6 rfl (fun c => ?_) (fun c => ?_)
    · have h := it h c
      refine r_iconst (pc := 13) dX12_isTable_13 kc_iconst_0 ?_
      subst h
      exact r_zret dX12_isTable_14 (Or.inl rfl)
    · have h := ie h c
      refine r_iconst (pc := 9) dX12_isTable_9 kc_iconst_1 ?_
      refine r_goto (pc := 10) (tgt := 14) dX12_isTable_10 rfl ?_
      subst h
      exact r_zret dX12_isTable_14 (Or.inr rfl)
abbrev WX12_line (G : Gx) (l : Launch) (σ0 : Shp) (X1 : Stt) (rv : Option SV) : Stt → Nat → List (Nat × SV) → List SV → Prop := Wm G l yX12_line cX12_line 4 (some .int) (fun _ => True) (rmx 1 22 σ0 X1.1) σ0 (Qmx G σ0 X1 rv)
def fX12_line_b67  (σ : Shp) (R : Nat → Nat → Option Nat) (t : Nat) (I : Nat → Nat → Int32) (x1 : Int32) (x2 : Int32) (x3 : Int32) : Option ((Nat → Nat → Int32) × (Int32)) :=
  if kdx σ t = 13 then
  ((R t 75) : Option Nat).bind fun a6 =>
  if kdx σ a6 = 20 then
  if ¬ (x1 < 0 ∨ lnx σ a6 ≤ Int32.toNatClampNeg x1) then
  if (I a6 (Int32.toNatClampNeg x1)) = (8 : Int32) then
    some (I, (-4 : Int32))
  else
    ((R t 76) : Option Nat).bind fun a9 =>
    if kdx σ a9 = 20 then
    if ¬ ((((8 : Int32) * x1) + (I a6 (Int32.toNatClampNeg x1))) < 0 ∨ lnx σ a9 ≤ Int32.toNatClampNeg (((8 : Int32) * x1) + (I a6 (Int32.toNatClampNeg x1)))) then
    let I12 := u2 I a9 (Int32.toNatClampNeg (((8 : Int32) * x1) + (I a6 (Int32.toNatClampNeg x1)))) x2
    ((R t 77) : Option Nat).bind fun a13 =>
    if kdx σ a13 = 20 then
    if ¬ ((((8 : Int32) * x1) + (I12 a6 (Int32.toNatClampNeg x1))) < 0 ∨ lnx σ a13 ≤ Int32.toNatClampNeg (((8 : Int32) * x1) + (I12 a6 (Int32.toNatClampNeg x1)))) then
    let I16 := u2 I12 a13 (Int32.toNatClampNeg (((8 : Int32) * x1) + (I12 a6 (Int32.toNatClampNeg x1)))) x3
    let I17 := u2 I16 a6 (Int32.toNatClampNeg x1) ((I16 a6 (Int32.toNatClampNeg x1)) + (1 : Int32))
    some (I17, (I17 a6 (Int32.toNatClampNeg x1)))
    else none
    else none
    else none
    else none
  else none
  else none
  else none
theorem wX12_line_b67 {G : Gx} {l : Launch} {σ : Shp} {I : Nat → Nat → Int32} {J : Nat → Nat → Int64} {D : Nat → Nat → UInt64} {R : Nat → Nat → Option Nat} {t : Nat} {I9 : Nat → Nat → Int32} {r9 : Int32} {x1 : Int32} {x2 : Int32} {x3 : Int32} (h : fX12_line_b67 σ R t I x1 x2 x3 = some (I9, r9)) : WX12_line G l σ (σ, I9, J, D, R) (some (vI r9)) (σ, I, J, D, R) 67 [(0, vR (some t)), (1, vI x1), (2, vI x2), (3, vI x3)] [] := by
  unfold fX12_line_b67 at h
  refine r_aload_n (pc := 67) dX12_line_67 rfl 0 rfl ?_
  obtain ⟨g5, h⟩ := gd h
  obtain ⟨a6, ha6, h⟩ := ob h
  refine r_getS (pc := 68) dX12_line_68 fgX12_144 rfl g5 ha6 ?_
  refine r_iload_n (pc := 71) dX12_line_71 rfl 1 rfl ?_
  obtain ⟨g7, h⟩ := gd h
  obtain ⟨g8, h⟩ := gd h
  refine r_iaload (pc := 72) dX12_line_72 g7 g8 ?_
  refine r_bipush (pc := 73) dX12_line_73 kc_bipush_8 ?_
  refine r_icmp_ne (pc := 75) (tgt := 81) dX12_line_75 rfl (fun c => ?_) (fun c => ?_)
  · have h := ie h c
    refine r_aload_n (pc := 81) dX12_line_81 rfl 0 rfl ?_
    obtain ⟨a9, ha9, h⟩ := ob h
    refine r_getS (pc := 82) dX12_line_82 fgX12_147 rfl g5 ha9 ?_
    refine r_bipush (pc := 85) dX12_line_85 kc_bipush_8 ?_
    refine r_iload_n (pc := 87) dX12_line_87 rfl 1 rfl ?_
    refine r_imul (pc := 88) dX12_line_88 ?_
    refine r_aload_n (pc := 89) dX12_line_89 rfl 0 rfl ?_
    refine r_getS (pc := 90) dX12_line_90 fgX12_144 rfl g5 ha6 ?_
    refine r_iload_n (pc := 93) dX12_line_93 rfl 1 rfl ?_
    refine r_iaload (pc := 94) dX12_line_94 g7 g8 ?_
    refine r_iadd (pc := 95) dX12_line_95 ?_
    refine r_iload_n (pc := 96) dX12_line_96 rfl 2 rfl ?_
    obtain ⟨g10, h⟩ := gd h
    obtain ⟨g11, h⟩ := gd h
    refine r_iastore (pc := 97) dX12_line_97 g10 g11 ?_
    refine r_aload_n (pc := 98) dX12_line_98 rfl 0 rfl ?_
    obtain ⟨a13, ha13, h⟩ := ob h
    refine r_getS (pc := 99) dX12_line_99 fgX12_150 rfl g5 ha13 ?_
    refine r_bipush (pc := 102) dX12_line_102 kc_bipush_8 ?_
    refine r_iload_n (pc := 104) dX12_line_104 rfl 1 rfl ?_
    refine r_imul (pc := 105) dX12_line_105 ?_
    refine r_aload_n (pc := 106) dX12_line_106 rfl 0 rfl ?_
    refine r_getS (pc := 107) dX12_line_107 fgX12_144 rfl g5 ha6 ?_
    refine r_iload_n (pc := 110) dX12_line_110 rfl 1 rfl ?_
    refine r_iaload (pc := 111) dX12_line_111 g7 g8 ?_
    refine r_iadd (pc := 112) dX12_line_112 ?_
    refine r_iload_n (pc := 113) dX12_line_113 rfl 3 rfl ?_
    obtain ⟨g14, h⟩ := gd h
    obtain ⟨g15, h⟩ := gd h
    refine r_iastore (pc := 114) dX12_line_114 g14 g15 ?_
    refine r_aload_n (pc := 115) dX12_line_115 rfl 0 rfl ?_
    refine r_getS (pc := 116) dX12_line_116 fgX12_144 rfl g5 ha6 ?_
    refine r_iload_n (pc := 119) dX12_line_119 rfl 1 rfl ?_
    refine r_dup2 (pc := 120) dX12_line_120 rfl rfl ?_
    refine r_iaload (pc := 121) dX12_line_121 g7 g8 ?_
    refine r_iconst (pc := 122) dX12_line_122 kc_iconst_1 ?_
    refine r_iadd (pc := 123) dX12_line_123 ?_
    refine r_iastore (pc := 124) dX12_line_124 g7 g8 ?_
    refine r_aload_n (pc := 125) dX12_line_125 rfl 0 rfl ?_
    refine r_getS (pc := 126) dX12_line_126 fgX12_144 rfl g5 ha6 ?_
    refine r_iload_n (pc := 129) dX12_line_129 rfl 1 rfl ?_
    refine r_iaload (pc := 130) dX12_line_130 g7 g8 ?_
    cases h
    exact r_iret dX12_line_131
  · have h := it h c
    refine r_bipush (pc := 78) dX12_line_78 kc_bipush_m4 ?_
    cases h
    exact r_iret dX12_line_80
def fX12_line (σ : Shp) (I : Nat → Nat → Int32) (R : Nat → Nat → Option Nat) (t : Nat) (x1 : Int32) (x2 : Int32) (x3 : Int32) : Option ((Nat → Nat → Int32) × (Int32)) :=
  if (fX12_isTable x1) = 0 then
    some (I, (-2 : Int32))
  else
    if (fX12_in x2 (-1000000 : Int32) (1000000 : Int32)) = 0 then
      some (I, (-2 : Int32))
    else
      if (fX12_in x3 (-1000000 : Int32) (1000000 : Int32)) = 0 then
        some (I, (-2 : Int32))
      else
        if kdx σ t = 13 then
        ((R t 75) : Option Nat).bind fun a2 =>
        if kdx σ a2 = 20 then
        if ¬ (x1 < 0 ∨ lnx σ a2 ≤ Int32.toNatClampNeg x1) then
        if (I a2 (Int32.toNatClampNeg x1)) ≤ 0 then
          fX12_line_b67 σ R t I x1 x2 x3
        else
          ((R t 76) : Option Nat).bind fun a18 =>
          if kdx σ a18 = 20 then
          if ¬ (((((8 : Int32) * x1) + (I a2 (Int32.toNatClampNeg x1))) - (1 : Int32)) < 0 ∨ lnx σ a18 ≤ Int32.toNatClampNeg ((((8 : Int32) * x1) + (I a2 (Int32.toNatClampNeg x1))) - (1 : Int32))) then
          if (I a18 (Int32.toNatClampNeg ((((8 : Int32) * x1) + (I a2 (Int32.toNatClampNeg x1))) - (1 : Int32)))) < x2 then
            fX12_line_b67 σ R t I x1 x2 x3
          else
            some (I, (-2 : Int32))
          else none
          else none
        else none
        else none
        else none
theorem kX12_line {G : Gx} {l : Launch} {σ : Shp} {I : Nat → Nat → Int32} {J : Nat → Nat → Int64} {D : Nat → Nat → UInt64} {R : Nat → Nat → Option Nat} {t : Nat} {x1 : Int32} {x2 : Int32} {x3 : Int32} {I9 : Nat → Nat → Int32} {r9 : Int32} (h : fX12_line σ I R t x1 x2 x3 = some (I9, r9)) : Con G l yX12_line cX12_line 4 (some .int) 1 22 [vR (some t), vI x1, vI x2, vI x3] (σ, I, J, D, R) (σ, I9, J, D, R) (some (vI r9)) := by
  unfold fX12_line at h
  refine Con.mk (by decide +kernel) rfl (Nat.le_of_ble_eq_true rfl) ?_
  show WX12_line G l σ (σ, I9, J, D, R) (some (vI r9)) (σ, I, J, D, R) 0 _ []
  refine r_iload_n (pc := 0) dX12_line_0 rfl 1 rfl ?_
  refine r_callS1 (pc := 1) (av := [vI x1]) (S := []) dX12_line_1 (kX12_isTable rfl) mkX12_612 mwX12_isTable rfl ⟨Nat.le_of_ble_eq_true rfl, Nat.le_of_ble_eq_true rfl⟩ (Nat.le_of_ble_eq_true rfl) ⟨Nat.le_refl _, Nat.le_refl _⟩ (fun b => b) ?_
  refine r_if_eq (pc := 4) (tgt := 64) dX12_line_4 rfl (fun c => ?_) (fun c => ?_)
  · have h := it h c
    refine r_bipush (pc := 64) dX12_line_64 kc_bipush_m2 ?_
    cases h
    exact r_iret dX12_line_66
  · have h := ie h c
    refine r_iload_n (pc := 7) dX12_line_7 rfl 2 rfl ?_
    refine r_ldcw (pc := 8) dX12_line_8 ciX12_615 ?_
    refine r_ldcw (pc := 11) dX12_line_11 ciX12_616 ?_
    refine r_callS1 (pc := 14) (av := [vI x2, vI (-1000000 : Int32), vI (1000000 : Int32)]) (S := []) dX12_line_14 (kX12_in rfl) mkX12_322 mwX12_in rfl ⟨Nat.le_of_ble_eq_true rfl, Nat.le_of_ble_eq_true rfl⟩ (Nat.le_of_ble_eq_true rfl) ⟨Nat.le_refl _, Nat.le_refl _⟩ (fun b => b) ?_
    refine r_if_eq (pc := 17) (tgt := 64) dX12_line_17 rfl (fun c => ?_) (fun c => ?_)
    · have h := it h c
      refine r_bipush (pc := 64) dX12_line_64 kc_bipush_m2 ?_
      cases h
      exact r_iret dX12_line_66
    · have h := ie h c
      refine r_iload_n (pc := 20) dX12_line_20 rfl 3 rfl ?_
      refine r_ldcw (pc := 21) dX12_line_21 ciX12_615 ?_
      refine r_ldcw (pc := 24) dX12_line_24 ciX12_616 ?_
      refine r_callS1 (pc := 27) (av := [vI x3, vI (-1000000 : Int32), vI (1000000 : Int32)]) (S := []) dX12_line_27 (kX12_in rfl) mkX12_322 mwX12_in rfl ⟨Nat.le_of_ble_eq_true rfl, Nat.le_of_ble_eq_true rfl⟩ (Nat.le_of_ble_eq_true rfl) ⟨Nat.le_refl _, Nat.le_refl _⟩ (fun b => b) ?_
      refine r_if_eq (pc := 30) (tgt := 64) dX12_line_30 rfl (fun c => ?_) (fun c => ?_)
      · have h := it h c
        refine r_bipush (pc := 64) dX12_line_64 kc_bipush_m2 ?_
        cases h
        exact r_iret dX12_line_66
      · have h := ie h c
        refine r_aload_n (pc := 33) dX12_line_33 rfl 0 rfl ?_
        obtain ⟨g1, h⟩ := gd h
        obtain ⟨a2, ha2, h⟩ := ob h
        refine r_getS (pc := 34) dX12_line_34 fgX12_144 rfl g1 ha2 ?_
        refine r_iload_n (pc := 37) dX12_line_37 rfl 1 rfl ?_
        obtain ⟨g3, h⟩ := gd h
        obtain ⟨g4, h⟩ := gd h
        refine r_iaload (pc := 38) dX12_line_38 g3 g4 ?_
        refine r_if_le (pc := 39) (tgt := 67) dX12_line_39 rfl (fun c => ?_) (fun c => ?_)
        · have h := it h c
          refine r_sub [0, 1, 2, 3] rfl ?_
          exact wX12_line_b67 h
        · have h := ie h c
          refine r_iload_n (pc := 42) dX12_line_42 rfl 2 rfl ?_
          refine r_aload_n (pc := 43) dX12_line_43 rfl 0 rfl ?_
          obtain ⟨a18, ha18, h⟩ := ob h
          refine r_getS (pc := 44) dX12_line_44 fgX12_147 rfl g1 ha18 ?_
          refine r_bipush (pc := 47) dX12_line_47 kc_bipush_8 ?_
          refine r_iload_n (pc := 49) dX12_line_49 rfl 1 rfl ?_
          refine r_imul (pc := 50) dX12_line_50 ?_
          refine r_aload_n (pc := 51) dX12_line_51 rfl 0 rfl ?_
          refine r_getS (pc := 52) dX12_line_52 fgX12_144 rfl g1 ha2 ?_
          refine r_iload_n (pc := 55) dX12_line_55 rfl 1 rfl ?_
          refine r_iaload (pc := 56) dX12_line_56 g3 g4 ?_
          refine r_iadd (pc := 57) dX12_line_57 ?_
          refine r_iconst (pc := 58) dX12_line_58 kc_iconst_1 ?_
          refine r_isub (pc := 59) dX12_line_59 ?_
          obtain ⟨g19, h⟩ := gd h
          obtain ⟨g20, h⟩ := gd h
          refine r_iaload (pc := 60) dX12_line_60 g19 g20 ?_
          refine r_icmp_gt (pc := 61) (tgt := 67) dX12_line_61 rfl (fun c => ?_) (fun c => ?_)
          · have h := it h c
            refine r_sub [0, 1, 2, 3] rfl ?_
            exact wX12_line_b67 h
          · have h := ie h c
            refine r_bipush (pc := 64) dX12_line_64 kc_bipush_m2 ?_
            cases h
            exact r_iret dX12_line_66
abbrev WX12_rest (G : Gx) (l : Launch) (σ0 : Shp) (X1 : Stt) (rv : Option SV) : Stt → Nat → List (Nat × SV) → List SV → Prop := Wm G l yX12_rest cX12_rest 3 (some .int) (fun _ => True) (rmx 1 20 σ0 X1.1) σ0 (Qmx G σ0 X1 rv)
def fX12_rest (σ : Shp) (I : Nat → Nat → Int32) (R : Nat → Nat → Option Nat) (t : Nat) (x1 : Int32) (x2 : Int32) : Option ((Nat → Nat → Int32) × (Int32)) :=
  if (fX12_isTable x1) = 0 then
    some (I, (-2 : Int32))
  else
    if x2 = (-1 : Int32) then
      if kdx σ t = 13 then
      ((R t 80) : Option Nat).bind fun a2 =>
      if kdx σ a2 = 24 then
      if ¬ (x1 < 0 ∨ lnx σ a2 ≤ Int32.toNatClampNeg x1) then
      if (I a2 (Int32.toNatClampNeg x1)) = 0 then
        ((R t 78) : Option Nat).bind fun a5 =>
        if kdx σ a5 = 20 then
        if ¬ (x1 < 0 ∨ lnx σ a5 ≤ Int32.toNatClampNeg x1) then
        let I8 := u2 I a5 (Int32.toNatClampNeg x1) x2
        some (I8, (1 : Int32))
        else none
        else none
      else
        some (I, (-3 : Int32))
      else none
      else none
      else none
    else
      if (fX12_isTable x2) = 0 then
        some (I, (-2 : Int32))
      else
        if kdx σ t = 13 then
        ((R t 80) : Option Nat).bind fun a10 =>
        if kdx σ a10 = 24 then
        if ¬ (x1 < 0 ∨ lnx σ a10 ≤ Int32.toNatClampNeg x1) then
        if (I a10 (Int32.toNatClampNeg x1)) = 0 then
          ((R t 78) : Option Nat).bind fun a13 =>
          if kdx σ a13 = 20 then
          if ¬ (x1 < 0 ∨ lnx σ a13 ≤ Int32.toNatClampNeg x1) then
          let I16 := u2 I a13 (Int32.toNatClampNeg x1) x2
          some (I16, (1 : Int32))
          else none
          else none
        else
          some (I, (-3 : Int32))
        else none
        else none
        else none
theorem kX12_rest {G : Gx} {l : Launch} {σ : Shp} {I : Nat → Nat → Int32} {J : Nat → Nat → Int64} {D : Nat → Nat → UInt64} {R : Nat → Nat → Option Nat} {t : Nat} {x1 : Int32} {x2 : Int32} {I9 : Nat → Nat → Int32} {r9 : Int32} (h : fX12_rest σ I R t x1 x2 = some (I9, r9)) : Con G l yX12_rest cX12_rest 3 (some .int) 1 20 [vR (some t), vI x1, vI x2] (σ, I, J, D, R) (σ, I9, J, D, R) (some (vI r9)) := by
  unfold fX12_rest at h
  refine Con.mk (by decide +kernel) rfl (Nat.le_of_ble_eq_true rfl) ?_
  show WX12_rest G l σ (σ, I9, J, D, R) (some (vI r9)) (σ, I, J, D, R) 0 _ []
  refine r_iload_n (pc := 0) dX12_rest_0 rfl 1 rfl ?_
  refine r_callS1 (pc := 1) (av := [vI x1]) (S := []) dX12_rest_1 (kX12_isTable rfl) mkX12_612 mwX12_isTable rfl ⟨Nat.le_of_ble_eq_true rfl, Nat.le_of_ble_eq_true rfl⟩ (Nat.le_of_ble_eq_true rfl) ⟨Nat.le_refl _, Nat.le_refl _⟩ (fun b => b) ?_
  refine r_if_eq (pc := 4) (tgt := 19) dX12_rest_4 rfl (fun c => ?_) (fun c => ?_)
  · have h := it h c
    refine r_bipush (pc := 19) dX12_rest_19 kc_bipush_m2 ?_
    cases h
    exact r_iret dX12_rest_21
  · have h := ie h c
    refine r_iload_n (pc := 7) dX12_rest_7 rfl 2 rfl ?_
    refine r_iconst (pc := 8) dX12_rest_8 kc_iconst_m1 ?_
    refine r_icmp_eq (pc := 9) (tgt := 22) dX12_rest_9 rfl (fun c => ?_) (fun c => ?_)
    · have h := it h c
      refine r_aload_n (pc := 22) dX12_rest_22 rfl 0 rfl ?_
      obtain ⟨g1, h⟩ := gd h
      obtain ⟨a2, ha2, h⟩ := ob h
      refine r_getS (pc := 23) dX12_rest_23 fgX12_160 rfl g1 ha2 ?_
      refine r_iload_n (pc := 26) dX12_rest_26 rfl 1 rfl ?_
      obtain ⟨g3, h⟩ := gd h
      obtain ⟨g4, h⟩ := gd h
      refine r_zaload (pc := 27) dX12_rest_27 g3 g4 ?_
      refine r_if_eq (pc := 28) (tgt := 34) dX12_rest_28 rfl (fun c => ?_) (fun c => ?_)
      · have h := it h c
        refine r_aload_n (pc := 34) dX12_rest_34 rfl 0 rfl ?_
        obtain ⟨a5, ha5, h⟩ := ob h
        refine r_getS (pc := 35) dX12_rest_35 fgX12_153 rfl g1 ha5 ?_
        refine r_iload_n (pc := 38) dX12_rest_38 rfl 1 rfl ?_
        refine r_iload_n (pc := 39) dX12_rest_39 rfl 2 rfl ?_
        obtain ⟨g6, h⟩ := gd h
        obtain ⟨g7, h⟩ := gd h
        refine r_iastore (pc := 40) dX12_rest_40 g6 g7 ?_
        refine r_iconst (pc := 41) dX12_rest_41 kc_iconst_1 ?_
        cases h
        exact r_iret dX12_rest_42
      · have h := ie h c
        refine r_bipush (pc := 31) dX12_rest_31 kc_bipush_m3 ?_
        cases h
        exact r_iret dX12_rest_33
    · have h := ie h c
      refine r_iload_n (pc := 12) dX12_rest_12 rfl 2 rfl ?_
      refine r_callS1 (pc := 13) (av := [vI x2]) (S := []) dX12_rest_13 (kX12_isTable rfl) mkX12_612 mwX12_isTable rfl ⟨Nat.le_of_ble_eq_true rfl, Nat.le_of_ble_eq_true rfl⟩ (Nat.le_of_ble_eq_true rfl) ⟨Nat.le_refl _, Nat.le_refl _⟩ (fun b => b) ?_
      refine r_ifne (pc := 16) (tgt := 22) dX12_rest_16 rfl (fun c => ?_) (fun c => ?_)
      · have h := ie h c
        refine r_aload_n (pc := 22) dX12_rest_22 rfl 0 rfl ?_
        obtain ⟨g9, h⟩ := gd h
        obtain ⟨a10, ha10, h⟩ := ob h
        refine r_getS (pc := 23) dX12_rest_23 fgX12_160 rfl g9 ha10 ?_
        refine r_iload_n (pc := 26) dX12_rest_26 rfl 1 rfl ?_
        obtain ⟨g11, h⟩ := gd h
        obtain ⟨g12, h⟩ := gd h
        refine r_zaload (pc := 27) dX12_rest_27 g11 g12 ?_
        refine r_if_eq (pc := 28) (tgt := 34) dX12_rest_28 rfl (fun c => ?_) (fun c => ?_)
        · have h := it h c
          refine r_aload_n (pc := 34) dX12_rest_34 rfl 0 rfl ?_
          obtain ⟨a13, ha13, h⟩ := ob h
          refine r_getS (pc := 35) dX12_rest_35 fgX12_153 rfl g9 ha13 ?_
          refine r_iload_n (pc := 38) dX12_rest_38 rfl 1 rfl ?_
          refine r_iload_n (pc := 39) dX12_rest_39 rfl 2 rfl ?_
          obtain ⟨g14, h⟩ := gd h
          obtain ⟨g15, h⟩ := gd h
          refine r_iastore (pc := 40) dX12_rest_40 g14 g15 ?_
          refine r_iconst (pc := 41) dX12_rest_41 kc_iconst_1 ?_
          cases h
          exact r_iret dX12_rest_42
        · have h := ie h c
          refine r_bipush (pc := 31) dX12_rest_31 kc_bipush_m3 ?_
          cases h
          exact r_iret dX12_rest_33
      · have h := it h c
        refine r_bipush (pc := 19) dX12_rest_19 kc_bipush_m2 ?_
        cases h
        exact r_iret dX12_rest_21
abbrev WX12_lay (G : Gx) (l : Launch) (σ0 : Shp) (X1 : Stt) (rv : Option SV) : Stt → Nat → List (Nat × SV) → List SV → Prop := Wm G l yX12_lay cX12_lay 6 none (fun _ => True) (rmx 0 0 σ0 X1.1) σ0 (Qmx G σ0 X1 rv)
def fX12_lay_b108 (q45 : (Nat → Nat → Int32) → (Int32) → (Option ((Nat → Nat → Int32)))) (σ : Shp) (R : Nat → Nat → Option Nat) (t : Nat) (I : Nat → Nat → Int32) (x2 : Int32) (x4 : Int32) (s0 : Option Nat) (s1 : Int32) (s2 : Int32) : Option ((Nat → Nat → Int32)) :=
  (s0 : Option Nat).bind fun a15 =>
  if kdx σ a15 = 20 then
  if ¬ (s1 < 0 ∨ lnx σ a15 ≤ Int32.toNatClampNeg s1) then
  let I18 := u2 I a15 (Int32.toNatClampNeg s1) s2
  if kdx σ t = 13 then
  ((R t 80) : Option Nat).bind fun a20 =>
  if kdx σ a20 = 24 then
  if ¬ (x4 < 0 ∨ lnx σ a20 ≤ Int32.toNatClampNeg x4) then
  let I23 := u2 I18 a20 (Int32.toNatClampNeg x4) (vp_nar .boolean (1 : Int32))
  ((R t 82) : Option Nat).bind fun a24 =>
  if kdx σ a24 = 20 then
  if ¬ ((I23 t 83) < 0 ∨ lnx σ a24 ≤ Int32.toNatClampNeg (I23 t 83)) then
  let I27 := u2 I23 a24 (Int32.toNatClampNeg (I23 t 83)) x4
  let I28 := u2 I27 t 83 ((I27 t 83) + (1 : Int32))
  q45 I28 x2
  else none
  else none
  else none
  else none
  else none
  else none
  else none
theorem wX12_lay_b108 {G : Gx} {l : Launch} {σ : Shp} {I : Nat → Nat → Int32} {J : Nat → Nat → Int64} {D : Nat → Nat → UInt64} {R : Nat → Nat → Option Nat} {t : Nat} {I9 : Nat → Nat → Int32} {q45 : (Nat → Nat → Int32) → (Int32) → (Option ((Nat → Nat → Int32)))} {x2 : Int32} {x4 : Int32} {s0 : Option Nat} {s1 : Int32} {s2 : Int32} (hq45 : ∀ (I : Nat → Nat → Int32) (x2 : Int32), q45 I x2 = some I9 → WX12_lay G l σ (σ, I9, J, D, R) none (σ, I, J, D, R) 45 [(0, vR (some t)), (2, vI x2)] []) (h : fX12_lay_b108 q45 σ R t I x2 x4 s0 s1 s2 = some I9) : WX12_lay G l σ (σ, I9, J, D, R) none (σ, I, J, D, R) 108 [(0, vR (some t)), (2, vI x2), (4, vI x4)] [vI s2, vI s1, vR s0] := by
  unfold fX12_lay_b108 at h
  obtain ⟨a15, ha15, h⟩ := ob h
  refine r_ref2 ha15 ?_
  obtain ⟨g16, h⟩ := gd h
  obtain ⟨g17, h⟩ := gd h
  refine r_iastore (pc := 108) dX12_lay_108 g16 g17 ?_
  refine r_aload_n (pc := 109) dX12_lay_109 rfl 0 rfl ?_
  obtain ⟨g19, h⟩ := gd h
  obtain ⟨a20, ha20, h⟩ := ob h
  refine r_getS (pc := 110) dX12_lay_110 fgX12_160 rfl g19 ha20 ?_
  refine r_iload (pc := 113) dX12_lay_113 2 rfl ?_
  refine r_iconst (pc := 115) dX12_lay_115 kc_iconst_1 ?_
  obtain ⟨g21, h⟩ := gd h
  obtain ⟨g22, h⟩ := gd h
  refine r_zastore (pc := 116) dX12_lay_116 g21 g22 ?_
  refine r_aload_n (pc := 117) dX12_lay_117 rfl 0 rfl ?_
  obtain ⟨a24, ha24, h⟩ := ob h
  refine r_getS (pc := 118) dX12_lay_118 fgX12_166 rfl g19 ha24 ?_
  refine r_aload_n (pc := 121) dX12_lay_121 rfl 0 rfl ?_
  refine r_getI (pc := 122) dX12_lay_122 fgX12_617 rfl g19 ?_
  refine r_iload (pc := 125) dX12_lay_125 2 rfl ?_
  obtain ⟨g25, h⟩ := gd h
  obtain ⟨g26, h⟩ := gd h
  refine r_iastore (pc := 127) dX12_lay_127 g25 g26 ?_
  refine r_aload_n (pc := 128) dX12_lay_128 rfl 0 rfl ?_
  refine r_dup (pc := 129) dX12_lay_129 rfl ?_
  refine r_getI (pc := 130) dX12_lay_130 fgX12_617 rfl g19 ?_
  refine r_iconst (pc := 133) dX12_lay_133 kc_iconst_1 ?_
  refine r_iadd (pc := 134) dX12_lay_134 ?_
  refine r_putI (pc := 135) dX12_lay_135 fwX12_617 rfl g19 ?_
  refine r_goto (pc := 138) (tgt := 45) dX12_lay_138 rfl ?_
  refine r_sub [0, 1] rfl ?_
  exact hq45 _ _ h
def fX12_lay_l45  (σ : Shp) (R : Nat → Nat → Option Nat) (t : Nat) : Nat → (Nat → Nat → Int32) → (Int32) → Option ((Nat → Nat → Int32))
  | 0, _, _ => none
  | n + 1, I, x2 =>
    if x2 ≤ 0 then
      some I
    else
      let v1 := x2 + (-1 : Int32)
      if kdx σ t = 13 then
      ((R t 84) : Option Nat).bind fun a3 =>
      if kdx σ a3 = 20 then
      if ¬ (v1 < 0 ∨ lnx σ a3 ≤ Int32.toNatClampNeg v1) then
      let v6 := (I a3 (Int32.toNatClampNeg v1))
      ((R t 78) : Option Nat).bind fun a7 =>
      if kdx σ a7 = 20 then
      if ¬ (v6 < 0 ∨ lnx σ a7 ≤ Int32.toNatClampNeg v6) then
      let v10 := (I a7 (Int32.toNatClampNeg v6))
      ((R t 81) : Option Nat).bind fun a11 =>
      if v10 = (-1 : Int32) then
        fX12_lay_b108 (fX12_lay_l45 σ R t n) σ R t I v1 v6 (some a11) v6 (0 : Int32)
      else
        ((R t 80) : Option Nat).bind fun a12 =>
        if kdx σ a12 = 24 then
        if ¬ (v10 < 0 ∨ lnx σ a12 ≤ Int32.toNatClampNeg v10) then
        if (I a12 (Int32.toNatClampNeg v10)) = 0 then
          fX12_lay_b108 (fX12_lay_l45 σ R t n) σ R t I v1 v6 (some a11) v6 ((1 : Int32) + (0 : Int32))
        else
          if kdx σ a11 = 20 then
          if ¬ (v10 < 0 ∨ lnx σ a11 ≤ Int32.toNatClampNeg v10) then
          fX12_lay_b108 (fX12_lay_l45 σ R t n) σ R t I v1 v6 (some a11) v6 ((1 : Int32) + (I a11 (Int32.toNatClampNeg v10)))
          else none
          else none
        else none
        else none
      else none
      else none
      else none
      else none
      else none
theorem wX12_lay_l45 {G : Gx} {l : Launch} {σ : Shp} {J : Nat → Nat → Int64} {D : Nat → Nat → UInt64} {R : Nat → Nat → Option Nat} {t : Nat} {I9 : Nat → Nat → Int32} : ∀ (n : Nat) (I : Nat → Nat → Int32) (x2 : Int32), fX12_lay_l45 σ R t n I x2 = some I9 → WX12_lay G l σ (σ, I9, J, D, R) none (σ, I, J, D, R) 45 [(0, vR (some t)), (2, vI x2)] [] := by
  intro n
  induction n with
  | zero =>
    intro I x2 h
    have h : none = some _ := h
    cases h
  | succ n ih =>
    intro I x2 h
    rw [fX12_lay_l45] at h
    refine r_iload_n (pc := 45) dX12_lay_45 rfl 1 rfl ?_
    refine r_if_le (pc := 46) (tgt := 141) dX12_lay_46 rfl (fun c => ?_) (fun c => ?_)
    · have h := it h c
      cases h
      exact r_vret dX12_lay_141
    · have h := ie h c
      refine r_iinc (pc := 49) (v := (x2 + (-1 : Int32))) (L' := [(2, vI (x2 + (-1 : Int32))), (0, vR (some t))]) dX12_lay_49 1 rfl (kc_inc_m1 _) (by decide) rfl ?_
      refine r_aload_n (pc := 52) dX12_lay_52 rfl 1 rfl ?_
      obtain ⟨g2, h⟩ := gd h
      obtain ⟨a3, ha3, h⟩ := ob h
      refine r_getS (pc := 53) dX12_lay_53 fgX12_169 rfl g2 ha3 ?_
      refine r_iload_n (pc := 56) dX12_lay_56 rfl 0 rfl ?_
      obtain ⟨g4, h⟩ := gd h
      obtain ⟨g5, h⟩ := gd h
      refine r_iaload (pc := 57) dX12_lay_57 g4 g5 ?_
      refine r_istore (pc := 58) (L' := [(4, vI (I a3 (Int32.toNatClampNeg (x2 + (-1 : Int32))))), (2, vI (x2 + (-1 : Int32))), (0, vR (some t))]) dX12_lay_58 (by decide) rfl ?_
      refine r_aload_n (pc := 60) dX12_lay_60 rfl 2 rfl ?_
      obtain ⟨a7, ha7, h⟩ := ob h
      refine r_getS (pc := 61) dX12_lay_61 fgX12_153 rfl g2 ha7 ?_
      refine r_iload (pc := 64) dX12_lay_64 0 rfl ?_
      obtain ⟨g8, h⟩ := gd h
      obtain ⟨g9, h⟩ := gd h
      refine r_iaload (pc := 66) dX12_lay_66 g8 g9 ?_
      refine r_istore (pc := 67) (L' := [(5, vI (I a7 (Int32.toNatClampNeg (I a3 (Int32.toNatClampNeg (x2 + (-1 : Int32))))))), (4, vI (I a3 (Int32.toNatClampNeg (x2 + (-1 : Int32))))), (2, vI (x2 + (-1 : Int32))), (0, vR (some t))]) dX12_lay_67 (by decide) rfl ?_
      refine r_aload_n (pc := 69) dX12_lay_69 rfl 3 rfl ?_
      obtain ⟨a11, ha11, h⟩ := ob h
      refine r_getS (pc := 70) dX12_lay_70 fgX12_163 rfl g2 ha11 ?_
      refine r_iload (pc := 73) dX12_lay_73 1 rfl ?_
      refine r_iload (pc := 75) dX12_lay_75 0 rfl ?_
      refine r_iconst (pc := 77) dX12_lay_77 kc_iconst_m1 ?_
      refine r_icmp_ne (pc := 78) (tgt := 85) dX12_lay_78 rfl (fun c => ?_) (fun c => ?_)
      · have h := ie h c
        refine r_iconst (pc := 85) dX12_lay_85 kc_iconst_1 ?_
        refine r_aload_n (pc := 86) dX12_lay_86 rfl 3 rfl ?_
        obtain ⟨a12, ha12, h⟩ := ob h
        refine r_getS (pc := 87) dX12_lay_87 fgX12_160 rfl g2 ha12 ?_
        refine r_iload (pc := 90) dX12_lay_90 0 rfl ?_
        obtain ⟨g13, h⟩ := gd h
        obtain ⟨g14, h⟩ := gd h
        refine r_zaload (pc := 92) dX12_lay_92 g13 g14 ?_
        refine r_if_eq (pc := 93) (tgt := 106) dX12_lay_93 rfl (fun c => ?_) (fun c => ?_)
        · have h := it h c
          refine r_iconst (pc := 106) dX12_lay_106 kc_iconst_0 ?_
          refine r_iadd (pc := 107) dX12_lay_107 ?_
          refine r_sub [3, 2, 1] rfl ?_
          exact wX12_lay_b108 ih h
        · have h := ie h c
          refine r_aload_n (pc := 96) dX12_lay_96 rfl 3 rfl ?_
          refine r_getS (pc := 97) dX12_lay_97 fgX12_163 rfl g2 ha11 ?_
          refine r_iload (pc := 100) dX12_lay_100 0 rfl ?_
          obtain ⟨g29, h⟩ := gd h
          obtain ⟨g30, h⟩ := gd h
          refine r_iaload (pc := 102) dX12_lay_102 g29 g30 ?_
          refine r_goto (pc := 103) (tgt := 107) dX12_lay_103 rfl ?_
          refine r_iadd (pc := 107) dX12_lay_107 ?_
          refine r_sub [3, 2, 1] rfl ?_
          exact wX12_lay_b108 ih h
      · have h := it h c
        refine r_iconst (pc := 81) dX12_lay_81 kc_iconst_0 ?_
        refine r_goto (pc := 82) (tgt := 108) dX12_lay_82 rfl ?_
        refine r_sub [3, 2, 1] rfl ?_
        exact wX12_lay_b108 ih h
def fX12_lay_l4  (σ : Shp) (R : Nat → Nat → Option Nat) (t : Nat) : Nat → (Nat → Nat → Int32) → (Int32) → (Int32) → Option ((Nat → Nat → Int32))
  | 0, _, _, _ => none
  | n + 1, I, x2, x3 =>
    if x3 = (-1 : Int32) then
      fX12_lay_l45 σ R t FUx I x2
    else
      if kdx σ t = 13 then
      ((R t 79) : Option Nat).bind fun a32 =>
      if kdx σ a32 = 24 then
      if ¬ (x3 < 0 ∨ lnx σ a32 ≤ Int32.toNatClampNeg x3) then
      if (I a32 (Int32.toNatClampNeg x3)) = 0 then
        let I35 := u2 I a32 (Int32.toNatClampNeg x3) (vp_nar .boolean (1 : Int32))
        ((R t 84) : Option Nat).bind fun a36 =>
        if kdx σ a36 = 20 then
        if ¬ (x2 < 0 ∨ lnx σ a36 ≤ Int32.toNatClampNeg x2) then
        let I39 := u2 I35 a36 (Int32.toNatClampNeg x2) x3
        let v40 := x2 + (1 : Int32)
        ((R t 78) : Option Nat).bind fun a41 =>
        if kdx σ a41 = 20 then
        if ¬ (x3 < 0 ∨ lnx σ a41 ≤ Int32.toNatClampNeg x3) then
        let v44 := (I39 a41 (Int32.toNatClampNeg x3))
        fX12_lay_l4 σ R t n I39 v40 v44
        else none
        else none
        else none
        else none
      else
        fX12_lay_l45 σ R t FUx I x2
      else none
      else none
      else none
theorem wX12_lay_l4 {G : Gx} {l : Launch} {σ : Shp} {J : Nat → Nat → Int64} {D : Nat → Nat → UInt64} {R : Nat → Nat → Option Nat} {t : Nat} {I9 : Nat → Nat → Int32} : ∀ (n : Nat) (I : Nat → Nat → Int32) (x2 : Int32) (x3 : Int32), fX12_lay_l4 σ R t n I x2 x3 = some I9 → WX12_lay G l σ (σ, I9, J, D, R) none (σ, I, J, D, R) 4 [(0, vR (some t)), (2, vI x2), (3, vI x3)] [] := by
  intro n
  induction n with
  | zero =>
    intro I x2 x3 h
    have h : none = some _ := h
    cases h
  | succ n ih =>
    intro I x2 x3 h
    rw [fX12_lay_l4] at h
    refine r_iload_n (pc := 4) dX12_lay_4 rfl 2 rfl ?_
    refine r_iconst (pc := 5) dX12_lay_5 kc_iconst_m1 ?_
    refine r_icmp_eq (pc := 6) (tgt := 45) dX12_lay_6 rfl (fun c => ?_) (fun c => ?_)
    · have h := it h c
      refine r_sub [0, 1] rfl ?_
      exact wX12_lay_l45 _ _ _ h
    · have h := ie h c
      refine r_aload_n (pc := 9) dX12_lay_9 rfl 0 rfl ?_
      obtain ⟨g31, h⟩ := gd h
      obtain ⟨a32, ha32, h⟩ := ob h
      refine r_getS (pc := 10) dX12_lay_10 fgX12_156 rfl g31 ha32 ?_
      refine r_iload_n (pc := 13) dX12_lay_13 rfl 2 rfl ?_
      obtain ⟨g33, h⟩ := gd h
      obtain ⟨g34, h⟩ := gd h
      refine r_zaload (pc := 14) dX12_lay_14 g33 g34 ?_
      refine r_ifne (pc := 15) (tgt := 45) dX12_lay_15 rfl (fun c => ?_) (fun c => ?_)
      · have h := ie h c
        refine r_sub [0, 1] rfl ?_
        exact wX12_lay_l45 _ _ _ h
      · have h := it h c
        refine r_aload_n (pc := 18) dX12_lay_18 rfl 0 rfl ?_
        refine r_getS (pc := 19) dX12_lay_19 fgX12_156 rfl g31 ha32 ?_
        refine r_iload_n (pc := 22) dX12_lay_22 rfl 2 rfl ?_
        refine r_iconst (pc := 23) dX12_lay_23 kc_iconst_1 ?_
        refine r_zastore (pc := 24) dX12_lay_24 g33 g34 ?_
        refine r_aload_n (pc := 25) dX12_lay_25 rfl 0 rfl ?_
        obtain ⟨a36, ha36, h⟩ := ob h
        refine r_getS (pc := 26) dX12_lay_26 fgX12_169 rfl g31 ha36 ?_
        refine r_iload_n (pc := 29) dX12_lay_29 rfl 1 rfl ?_
        refine r_iload_n (pc := 30) dX12_lay_30 rfl 2 rfl ?_
        obtain ⟨g37, h⟩ := gd h
        obtain ⟨g38, h⟩ := gd h
        refine r_iastore (pc := 31) dX12_lay_31 g37 g38 ?_
        refine r_iinc (pc := 32) (v := (x2 + (1 : Int32))) (L' := [(2, vI (x2 + (1 : Int32))), (0, vR (some t)), (3, vI x3)]) dX12_lay_32 1 rfl (kc_inc_1 _) (by decide) rfl ?_
        refine r_aload_n (pc := 35) dX12_lay_35 rfl 1 rfl ?_
        obtain ⟨a41, ha41, h⟩ := ob h
        refine r_getS (pc := 36) dX12_lay_36 fgX12_153 rfl g31 ha41 ?_
        refine r_iload_n (pc := 39) dX12_lay_39 rfl 2 rfl ?_
        obtain ⟨g42, h⟩ := gd h
        obtain ⟨g43, h⟩ := gd h
        refine r_iaload (pc := 40) dX12_lay_40 g42 g43 ?_
        refine r_istore_n (pc := 41) (L' := [(3, vI ((u2 (u2 I a32 (Int32.toNatClampNeg x3) (vp_nar .boolean (1 : Int32))) a36 (Int32.toNatClampNeg x2) x3) a41 (Int32.toNatClampNeg x3))), (2, vI (x2 + (1 : Int32))), (0, vR (some t))]) dX12_lay_41 rfl (by decide) rfl ?_
        refine r_goto (pc := 42) (tgt := 4) dX12_lay_42 rfl ?_
        refine r_sub [2, 1, 0] rfl ?_
        exact ih _ _ _ h
def fX12_lay (σ : Shp) (I : Nat → Nat → Int32) (R : Nat → Nat → Option Nat) (t : Nat) (x1 : Int32) : Option ((Nat → Nat → Int32)) :=
  fX12_lay_l4 σ R t FUx I (0 : Int32) x1
theorem kX12_lay {G : Gx} {l : Launch} {σ : Shp} {I : Nat → Nat → Int32} {J : Nat → Nat → Int64} {D : Nat → Nat → UInt64} {R : Nat → Nat → Option Nat} {t : Nat} {x1 : Int32} {I9 : Nat → Nat → Int32} (h : fX12_lay σ I R t x1 = some I9) : Con G l yX12_lay cX12_lay 6 none 0 0 [vR (some t), vI x1] (σ, I, J, D, R) (σ, I9, J, D, R) none := by
  unfold fX12_lay at h
  refine Con.mk (by decide +kernel) rfl (Nat.le_of_ble_eq_true rfl) ?_
  show WX12_lay G l σ (σ, I9, J, D, R) none (σ, I, J, D, R) 0 _ []
  refine r_iconst (pc := 0) dX12_lay_0 kc_iconst_0 ?_
  refine r_istore_n (pc := 1) (L' := [(2, vI (0 : Int32)), (0, vR (some t)), (1, vI x1)]) dX12_lay_1 rfl (by decide) rfl ?_
  refine r_iload_n (pc := 2) dX12_lay_2 rfl 2 rfl ?_
  refine r_istore_n (pc := 3) (L' := [(3, vI x1), (2, vI (0 : Int32)), (0, vR (some t)), (1, vI x1)]) dX12_lay_3 rfl (by decide) rfl ?_
  refine r_sub [2, 1, 0] rfl ?_
  exact wX12_lay_l4 _ _ _ _ h
abbrev WX12_down (G : Gx) (l : Launch) (σ0 : Shp) (X1 : Stt) (rv : Option SV) : Stt → Nat → List (Nat × SV) → List SV → Prop := Wm G l yX12_down cX12_down 6 (some .long) (fun _ => True) (rmx 0 0 σ0 X1.1) σ0 (Qmx G σ0 X1 rv)
def fX12_down  (x0 : Int64) (x2 : Int64) : Option ((Int64)) :=
  if ¬ x2 = 0 then
  let v2 := (x0 / x2)
  if (0 : Int64) ≤ (x0 - x0 / x2 * x2) then
    some v2
  else
    some (v2 - (1 : Int64))
  else none
theorem kX12_down {G : Gx} {l : Launch} {σ : Shp} {I : Nat → Nat → Int32} {J : Nat → Nat → Int64} {D : Nat → Nat → UInt64} {R : Nat → Nat → Option Nat} {x0 : Int64} {x2 : Int64} {r9 : Int64} (h : fX12_down x0 x2 = some r9) : Con G l yX12_down cX12_down 6 (some .long) 0 0 [vL x0, vL x2] (σ, I, J, D, R) (σ, I, J, D, R) (some (vL r9)) := by
  unfold fX12_down at h
  refine Con.mk (by decide +kernel) rfl (Nat.le_of_ble_eq_true rfl) ?_
  show WX12_down G l σ (σ, I, J, D, R) (some (vL r9)) (σ, I, J, D, R) 0 _ []
  refine r_lload_n (pc := 0) dX12_down_0 rfl 0 rfl ?_
  refine r_lload_n (pc := 1) dX12_down_1 rfl 1 rfl ?_
  obtain ⟨g1, h⟩ := gd h
  refine r_ldiv (pc := 2) dX12_down_2 g1 ?_
  refine r_lstore (pc := 3) (L' := [(4, vL (x0 / x2)), (0, vL x0), (2, vL x2)]) dX12_down_3 (by decide) rfl ?_
  refine r_lload_n (pc := 5) dX12_down_5 rfl 1 rfl ?_
  refine r_lload_n (pc := 6) dX12_down_6 rfl 2 rfl ?_
  refine r_lrem (pc := 7) dX12_down_7 g1 ?_
  refine r_lconst (pc := 8) dX12_down_8 kc_lconst_0 ?_
  refine r_lcmp (pc := 9) dX12_down_9 ?_
  refine r_ifge (pc := 10) (tgt := 20) dX12_down_10 rfl (fun c => ?_) (fun c => ?_)
  · have h := it h (lgc_ge.mp c)
    refine r_lload (pc := 20) dX12_down_20 0 rfl ?_
    cases h
    exact r_lret dX12_down_22
  · have h := ie h (fun q => c (lgc_ge.mpr q))
    refine r_lload (pc := 13) dX12_down_13 0 rfl ?_
    refine r_lconst (pc := 15) dX12_down_15 kc_lconst_1 ?_
    refine r_lsub (pc := 16) dX12_down_16 ?_
    refine r_goto (pc := 17) (tgt := 22) dX12_down_17 rfl ?_
    cases h
    exact r_lret dX12_down_22
abbrev WX12_valueOf (G : Gx) (l : Launch) (σ0 : Shp) (X1 : Stt) (rv : Option SV) : Stt → Nat → List (Nat × SV) → List SV → Prop := Wm G l yX12_valueOf cX12_valueOf 7 (some .int) (fun _ => True) (rmx 1 25 σ0 X1.1) σ0 (Qmx G σ0 X1 rv)
def fX12_valueOf_b87  (σ : Shp) (R : Nat → Nat → Option Nat) (t : Nat) (I : Nat → Nat → Int32) (x1 : Int32) (x2 : Int32) (x3 : Int32) (x4 : Int32) : Option ((Nat → Nat → Int32) × (Int32)) :=
  if (x4 + (1 : Int32)) = (((8 : Int32) * x1) + x3) then
    if kdx σ t = 13 then
    ((R t 81) : Option Nat).bind fun a27 =>
    if kdx σ a27 = 20 then
    if ¬ (x1 < 0 ∨ lnx σ a27 ≤ Int32.toNatClampNeg x1) then
    ((R t 77) : Option Nat).bind fun a30 =>
    if kdx σ a30 = 20 then
    if ¬ (x4 < 0 ∨ lnx σ a30 ≤ Int32.toNatClampNeg x4) then
    some (I, ((I a27 (Int32.toNatClampNeg x1)) + (I a30 (Int32.toNatClampNeg x4))))
    else none
    else none
    else none
    else none
    else none
  else
    if kdx σ t = 13 then
    ((R t 77) : Option Nat).bind fun a13 =>
    if kdx σ a13 = 20 then
    if ¬ ((x4 + (1 : Int32)) < 0 ∨ lnx σ a13 ≤ Int32.toNatClampNeg (x4 + (1 : Int32))) then
    if ¬ (x4 < 0 ∨ lnx σ a13 ≤ Int32.toNatClampNeg x4) then
    ((R t 76) : Option Nat).bind fun a17 =>
    if kdx σ a17 = 20 then
    if ¬ (x4 < 0 ∨ lnx σ a17 ≤ Int32.toNatClampNeg x4) then
    if ¬ ((x4 + (1 : Int32)) < 0 ∨ lnx σ a17 ≤ Int32.toNatClampNeg (x4 + (1 : Int32))) then
    (fX12_down ((Int32.toInt64 ((I a13 (Int32.toNatClampNeg (x4 + (1 : Int32)))) - (I a13 (Int32.toNatClampNeg x4)))) * (Int32.toInt64 (x2 - (I a17 (Int32.toNatClampNeg x4))))) (Int32.toInt64 ((I a17 (Int32.toNatClampNeg (x4 + (1 : Int32)))) - (I a17 (Int32.toNatClampNeg x4))))).bind fun r21 =>
    ((R t 81) : Option Nat).bind fun a23 =>
    if kdx σ a23 = 20 then
    if ¬ (x1 < 0 ∨ lnx σ a23 ≤ Int32.toNatClampNeg x1) then
    some (I, (((I a23 (Int32.toNatClampNeg x1)) + (I a13 (Int32.toNatClampNeg x4))) + (Int64.toInt32 r21)))
    else none
    else none
    else none
    else none
    else none
    else none
    else none
    else none
    else none
theorem wX12_valueOf_b87 {G : Gx} {l : Launch} {σ : Shp} {I : Nat → Nat → Int32} {J : Nat → Nat → Int64} {D : Nat → Nat → UInt64} {R : Nat → Nat → Option Nat} {t : Nat} {I9 : Nat → Nat → Int32} {r9 : Int32} {x1 : Int32} {x2 : Int32} {x3 : Int32} {x4 : Int32} (h : fX12_valueOf_b87 σ R t I x1 x2 x3 x4 = some (I9, r9)) : WX12_valueOf G l σ (σ, I9, J, D, R) (some (vI r9)) (σ, I, J, D, R) 87 [(0, vR (some t)), (1, vI x1), (2, vI x2), (3, vI x3), (4, vI x4)] [] := by
  unfold fX12_valueOf_b87 at h
  refine r_iload (pc := 87) dX12_valueOf_87 4 rfl ?_
  refine r_iconst (pc := 89) dX12_valueOf_89 kc_iconst_1 ?_
  refine r_iadd (pc := 90) dX12_valueOf_90 ?_
  refine r_bipush (pc := 91) dX12_valueOf_91 kc_bipush_8 ?_
  refine r_iload_n (pc := 93) dX12_valueOf_93 rfl 1 rfl ?_
  refine r_imul (pc := 94) dX12_valueOf_94 ?_
  refine r_iload_n (pc := 95) dX12_valueOf_95 rfl 3 rfl ?_
  refine r_iadd (pc := 96) dX12_valueOf_96 ?_
  refine r_icmp_ne (pc := 97) (tgt := 115) dX12_valueOf_97 rfl (fun c => ?_) (fun c => ?_)
  · have h := ie h c
    refine r_aload_n (pc := 115) dX12_valueOf_115 rfl 0 rfl ?_
    obtain ⟨g12, h⟩ := gd h
    obtain ⟨a13, ha13, h⟩ := ob h
    refine r_getS (pc := 116) dX12_valueOf_116 fgX12_150 rfl g12 ha13 ?_
    refine r_iload (pc := 119) dX12_valueOf_119 4 rfl ?_
    refine r_iconst (pc := 121) dX12_valueOf_121 kc_iconst_1 ?_
    refine r_iadd (pc := 122) dX12_valueOf_122 ?_
    obtain ⟨g14, h⟩ := gd h
    obtain ⟨g15, h⟩ := gd h
    refine r_iaload (pc := 123) dX12_valueOf_123 g14 g15 ?_
    refine r_aload_n (pc := 124) dX12_valueOf_124 rfl 0 rfl ?_
    refine r_getS (pc := 125) dX12_valueOf_125 fgX12_150 rfl g12 ha13 ?_
    refine r_iload (pc := 128) dX12_valueOf_128 4 rfl ?_
    obtain ⟨g16, h⟩ := gd h
    refine r_iaload (pc := 130) dX12_valueOf_130 g14 g16 ?_
    refine r_isub (pc := 131) dX12_valueOf_131 ?_
    refine r_i2l (pc := 132) dX12_valueOf_132 ?_
    refine r_iload_n (pc := 133) dX12_valueOf_133 rfl 2 rfl ?_
    refine r_aload_n (pc := 134) dX12_valueOf_134 rfl 0 rfl ?_
    obtain ⟨a17, ha17, h⟩ := ob h
    refine r_getS (pc := 135) dX12_valueOf_135 fgX12_147 rfl g12 ha17 ?_
    refine r_iload (pc := 138) dX12_valueOf_138 4 rfl ?_
    obtain ⟨g18, h⟩ := gd h
    obtain ⟨g19, h⟩ := gd h
    refine r_iaload (pc := 140) dX12_valueOf_140 g18 g19 ?_
    refine r_isub (pc := 141) dX12_valueOf_141 ?_
    refine r_i2l (pc := 142) dX12_valueOf_142 ?_
    refine r_lmul (pc := 143) dX12_valueOf_143 ?_
    refine r_aload_n (pc := 144) dX12_valueOf_144 rfl 0 rfl ?_
    refine r_getS (pc := 145) dX12_valueOf_145 fgX12_147 rfl g12 ha17 ?_
    refine r_iload (pc := 148) dX12_valueOf_148 4 rfl ?_
    refine r_iconst (pc := 150) dX12_valueOf_150 kc_iconst_1 ?_
    refine r_iadd (pc := 151) dX12_valueOf_151 ?_
    obtain ⟨g20, h⟩ := gd h
    refine r_iaload (pc := 152) dX12_valueOf_152 g18 g20 ?_
    refine r_aload_n (pc := 153) dX12_valueOf_153 rfl 0 rfl ?_
    refine r_getS (pc := 154) dX12_valueOf_154 fgX12_147 rfl g12 ha17 ?_
    refine r_iload (pc := 157) dX12_valueOf_157 4 rfl ?_
    refine r_iaload (pc := 159) dX12_valueOf_159 g18 g19 ?_
    refine r_isub (pc := 160) dX12_valueOf_160 ?_
    refine r_i2l (pc := 161) dX12_valueOf_161 ?_
    obtain ⟨r21, hc22, h⟩ := ob h
    refine r_callS1 (pc := 162) (av := [vL ((Int32.toInt64 ((I a13 (Int32.toNatClampNeg (x4 + (1 : Int32)))) - (I a13 (Int32.toNatClampNeg x4)))) * (Int32.toInt64 (x2 - (I a17 (Int32.toNatClampNeg x4))))), vL (Int32.toInt64 ((I a17 (Int32.toNatClampNeg (x4 + (1 : Int32)))) - (I a17 (Int32.toNatClampNeg x4))))]) (S := []) dX12_valueOf_162 (kX12_down hc22) mkX12_623 mwX12_down rfl ⟨Nat.le_of_ble_eq_true rfl, Nat.le_of_ble_eq_true rfl⟩ (Nat.le_of_ble_eq_true rfl) ⟨Nat.le_refl _, Nat.le_refl _⟩ (fun b => b) ?_
    refine r_lstore (pc := 165) (L' := [(5, vL r21), (0, vR (some t)), (1, vI x1), (2, vI x2), (3, vI x3), (4, vI x4)]) dX12_valueOf_165 (by decide) rfl ?_
    refine r_aload_n (pc := 167) dX12_valueOf_167 rfl 1 rfl ?_
    obtain ⟨a23, ha23, h⟩ := ob h
    refine r_getS (pc := 168) dX12_valueOf_168 fgX12_163 rfl g12 ha23 ?_
    refine r_iload_n (pc := 171) dX12_valueOf_171 rfl 2 rfl ?_
    obtain ⟨g24, h⟩ := gd h
    obtain ⟨g25, h⟩ := gd h
    refine r_iaload (pc := 172) dX12_valueOf_172 g24 g25 ?_
    refine r_aload_n (pc := 173) dX12_valueOf_173 rfl 1 rfl ?_
    refine r_getS (pc := 174) dX12_valueOf_174 fgX12_150 rfl g12 ha13 ?_
    refine r_iload (pc := 177) dX12_valueOf_177 5 rfl ?_
    refine r_iaload (pc := 179) dX12_valueOf_179 g14 g16 ?_
    refine r_iadd (pc := 180) dX12_valueOf_180 ?_
    refine r_lload (pc := 181) dX12_valueOf_181 0 rfl ?_
    refine r_l2i (pc := 183) dX12_valueOf_183 ?_
    refine r_iadd (pc := 184) dX12_valueOf_184 ?_
    cases h
    exact r_iret dX12_valueOf_185
  · have h := it h c
    refine r_aload_n (pc := 100) dX12_valueOf_100 rfl 0 rfl ?_
    obtain ⟨g26, h⟩ := gd h
    obtain ⟨a27, ha27, h⟩ := ob h
    refine r_getS (pc := 101) dX12_valueOf_101 fgX12_163 rfl g26 ha27 ?_
    refine r_iload_n (pc := 104) dX12_valueOf_104 rfl 1 rfl ?_
    obtain ⟨g28, h⟩ := gd h
    obtain ⟨g29, h⟩ := gd h
    refine r_iaload (pc := 105) dX12_valueOf_105 g28 g29 ?_
    refine r_aload_n (pc := 106) dX12_valueOf_106 rfl 0 rfl ?_
    obtain ⟨a30, ha30, h⟩ := ob h
    refine r_getS (pc := 107) dX12_valueOf_107 fgX12_150 rfl g26 ha30 ?_
    refine r_iload (pc := 110) dX12_valueOf_110 4 rfl ?_
    obtain ⟨g31, h⟩ := gd h
    obtain ⟨g32, h⟩ := gd h
    refine r_iaload (pc := 112) dX12_valueOf_112 g31 g32 ?_
    refine r_iadd (pc := 113) dX12_valueOf_113 ?_
    cases h
    exact r_iret dX12_valueOf_114
def fX12_valueOf_l55  (σ : Shp) (R : Nat → Nat → Option Nat) (t : Nat) : Nat → (Nat → Nat → Int32) → (Int32) → (Int32) → (Int32) → (Int32) → Option ((Nat → Nat → Int32) × (Int32))
  | 0, _, _, _, _, _ => none
  | n + 1, I, x1, x2, x3, x4 =>
    if (((8 : Int32) * x1) + x3) ≤ (x4 + (1 : Int32)) then
      fX12_valueOf_b87 σ R t I x1 x2 x3 x4
    else
      if kdx σ t = 13 then
      ((R t 76) : Option Nat).bind fun a34 =>
      if kdx σ a34 = 20 then
      if ¬ ((x4 + (1 : Int32)) < 0 ∨ lnx σ a34 ≤ Int32.toNatClampNeg (x4 + (1 : Int32))) then
      if x2 < (I a34 (Int32.toNatClampNeg (x4 + (1 : Int32)))) then
        fX12_valueOf_b87 σ R t I x1 x2 x3 x4
      else
        let v37 := x4 + (1 : Int32)
        fX12_valueOf_l55 σ R t n I x1 x2 x3 v37
      else none
      else none
      else none
theorem wX12_valueOf_l55 {G : Gx} {l : Launch} {σ : Shp} {J : Nat → Nat → Int64} {D : Nat → Nat → UInt64} {R : Nat → Nat → Option Nat} {t : Nat} {I9 : Nat → Nat → Int32} {r9 : Int32} : ∀ (n : Nat) (I : Nat → Nat → Int32) (x1 : Int32) (x2 : Int32) (x3 : Int32) (x4 : Int32), fX12_valueOf_l55 σ R t n I x1 x2 x3 x4 = some (I9, r9) → WX12_valueOf G l σ (σ, I9, J, D, R) (some (vI r9)) (σ, I, J, D, R) 55 [(0, vR (some t)), (1, vI x1), (2, vI x2), (3, vI x3), (4, vI x4)] [] := by
  intro n
  induction n with
  | zero =>
    intro I x1 x2 x3 x4 h
    have h : none = some _ := h
    cases h
  | succ n ih =>
    intro I x1 x2 x3 x4 h
    rw [fX12_valueOf_l55] at h
    refine r_iload (pc := 55) dX12_valueOf_55 4 rfl ?_
    refine r_iconst (pc := 57) dX12_valueOf_57 kc_iconst_1 ?_
    refine r_iadd (pc := 58) dX12_valueOf_58 ?_
    refine r_bipush (pc := 59) dX12_valueOf_59 kc_bipush_8 ?_
    refine r_iload_n (pc := 61) dX12_valueOf_61 rfl 1 rfl ?_
    refine r_imul (pc := 62) dX12_valueOf_62 ?_
    refine r_iload_n (pc := 63) dX12_valueOf_63 rfl 3 rfl ?_
    refine r_iadd (pc := 64) dX12_valueOf_64 ?_
    refine r_icmp_ge (pc := 65) (tgt := 87) dX12_valueOf_65 rfl (fun c => ?_) (fun c => ?_)
    · have h := it h c
      refine r_sub [0, 1, 2, 3, 4] rfl ?_
      exact wX12_valueOf_b87 h
    · have h := ie h c
      refine r_aload_n (pc := 68) dX12_valueOf_68 rfl 0 rfl ?_
      obtain ⟨g33, h⟩ := gd h
      obtain ⟨a34, ha34, h⟩ := ob h
      refine r_getS (pc := 69) dX12_valueOf_69 fgX12_147 rfl g33 ha34 ?_
      refine r_iload (pc := 72) dX12_valueOf_72 4 rfl ?_
      refine r_iconst (pc := 74) dX12_valueOf_74 kc_iconst_1 ?_
      refine r_iadd (pc := 75) dX12_valueOf_75 ?_
      obtain ⟨g35, h⟩ := gd h
      obtain ⟨g36, h⟩ := gd h
      refine r_iaload (pc := 76) dX12_valueOf_76 g35 g36 ?_
      refine r_iload_n (pc := 77) dX12_valueOf_77 rfl 2 rfl ?_
      refine r_icmp_gt (pc := 78) (tgt := 87) dX12_valueOf_78 rfl (fun c => ?_) (fun c => ?_)
      · have h := it h c
        refine r_sub [0, 1, 2, 3, 4] rfl ?_
        exact wX12_valueOf_b87 h
      · have h := ie h c
        refine r_iinc (pc := 81) (v := (x4 + (1 : Int32))) (L' := [(4, vI (x4 + (1 : Int32))), (0, vR (some t)), (1, vI x1), (2, vI x2), (3, vI x3)]) dX12_valueOf_81 4 rfl (kc_inc_1 _) (by decide) rfl ?_
        refine r_goto (pc := 84) (tgt := 55) dX12_valueOf_84 rfl ?_
        refine r_sub [1, 2, 3, 4, 0] rfl ?_
        exact ih _ _ _ _ _ h
def fX12_valueOf (σ : Shp) (I : Nat → Nat → Int32) (R : Nat → Nat → Option Nat) (t : Nat) (x1 : Int32) (x2 : Int32) : Option ((Nat → Nat → Int32) × (Int32)) :=
  if kdx σ t = 13 then
  (fX12_lay σ I R t x1).bind fun I2 =>
  ((R t 75) : Option Nat).bind fun a4 =>
  if kdx σ a4 = 20 then
  if ¬ (x1 < 0 ∨ lnx σ a4 ≤ Int32.toNatClampNeg x1) then
  let v7 := (I2 a4 (Int32.toNatClampNeg x1))
  if v7 = 0 then
    ((R t 81) : Option Nat).bind fun a44 =>
    if kdx σ a44 = 20 then
    if ¬ (x1 < 0 ∨ lnx σ a44 ≤ Int32.toNatClampNeg x1) then
    some (I2, (I2 a44 (Int32.toNatClampNeg x1)))
    else none
    else none
  else
    let v8 := ((8 : Int32) * x1)
    ((R t 76) : Option Nat).bind fun a9 =>
    if kdx σ a9 = 20 then
    if ¬ (v8 < 0 ∨ lnx σ a9 ≤ Int32.toNatClampNeg v8) then
    if (I2 a9 (Int32.toNatClampNeg v8)) < x2 then
      fX12_valueOf_l55 σ R t FUx I2 x1 x2 v7 v8
    else
      ((R t 81) : Option Nat).bind fun a38 =>
      if kdx σ a38 = 20 then
      if ¬ (x1 < 0 ∨ lnx σ a38 ≤ Int32.toNatClampNeg x1) then
      ((R t 77) : Option Nat).bind fun a41 =>
      if kdx σ a41 = 20 then
      if ¬ (v8 < 0 ∨ lnx σ a41 ≤ Int32.toNatClampNeg v8) then
      some (I2, ((I2 a38 (Int32.toNatClampNeg x1)) + (I2 a41 (Int32.toNatClampNeg v8))))
      else none
      else none
      else none
      else none
    else none
    else none
  else none
  else none
  else none
theorem kX12_valueOf {G : Gx} {l : Launch} {σ : Shp} {I : Nat → Nat → Int32} {J : Nat → Nat → Int64} {D : Nat → Nat → UInt64} {R : Nat → Nat → Option Nat} {t : Nat} {x1 : Int32} {x2 : Int32} {I9 : Nat → Nat → Int32} {r9 : Int32} (h : fX12_valueOf σ I R t x1 x2 = some (I9, r9)) : Con G l yX12_valueOf cX12_valueOf 7 (some .int) 1 25 [vR (some t), vI x1, vI x2] (σ, I, J, D, R) (σ, I9, J, D, R) (some (vI r9)) := by
  unfold fX12_valueOf at h
  refine Con.mk (by decide +kernel) rfl (Nat.le_of_ble_eq_true rfl) ?_
  show WX12_valueOf G l σ (σ, I9, J, D, R) (some (vI r9)) (σ, I, J, D, R) 0 _ []
  refine r_aload_n (pc := 0) dX12_valueOf_0 rfl 0 rfl ?_
  refine r_iload_n (pc := 1) dX12_valueOf_1 rfl 1 rfl ?_
  obtain ⟨g1, h⟩ := gd h
  obtain ⟨I2, hc3, h⟩ := ob h
  refine r_callV0 (pc := 2) (av := [vI x1]) (S := []) dX12_valueOf_2 (kX12_lay hc3) g1 rfl mkX12_620 mwX12_lay rfl ⟨Nat.le_of_ble_eq_true rfl, Nat.le_of_ble_eq_true rfl⟩ (Nat.le_of_ble_eq_true rfl) ⟨Nat.le_refl _, Nat.le_refl _⟩ (fun b => b) ?_
  refine r_aload_n (pc := 5) dX12_valueOf_5 rfl 0 rfl ?_
  obtain ⟨a4, ha4, h⟩ := ob h
  refine r_getS (pc := 6) dX12_valueOf_6 fgX12_144 rfl g1 ha4 ?_
  refine r_iload_n (pc := 9) dX12_valueOf_9 rfl 1 rfl ?_
  obtain ⟨g5, h⟩ := gd h
  obtain ⟨g6, h⟩ := gd h
  refine r_iaload (pc := 10) dX12_valueOf_10 g5 g6 ?_
  refine r_istore_n (pc := 11) (L' := [(3, vI (I2 a4 (Int32.toNatClampNeg x1))), (0, vR (some t)), (1, vI x1), (2, vI x2)]) dX12_valueOf_11 rfl (by decide) rfl ?_
  refine r_iload_n (pc := 12) dX12_valueOf_12 rfl 0 rfl ?_
  refine r_ifne (pc := 13) (tgt := 23) dX12_valueOf_13 rfl (fun c => ?_) (fun c => ?_)
  · have h := ie h c
    refine r_bipush (pc := 23) dX12_valueOf_23 kc_bipush_8 ?_
    refine r_iload_n (pc := 25) dX12_valueOf_25 rfl 2 rfl ?_
    refine r_imul (pc := 26) dX12_valueOf_26 ?_
    refine r_istore (pc := 27) (L' := [(4, vI ((8 : Int32) * x1)), (3, vI (I2 a4 (Int32.toNatClampNeg x1))), (0, vR (some t)), (1, vI x1), (2, vI x2)]) dX12_valueOf_27 (by decide) rfl ?_
    refine r_iload_n (pc := 29) dX12_valueOf_29 rfl 4 rfl ?_
    refine r_aload_n (pc := 30) dX12_valueOf_30 rfl 2 rfl ?_
    obtain ⟨a9, ha9, h⟩ := ob h
    refine r_getS (pc := 31) dX12_valueOf_31 fgX12_147 rfl g1 ha9 ?_
    refine r_iload (pc := 34) dX12_valueOf_34 0 rfl ?_
    obtain ⟨g10, h⟩ := gd h
    obtain ⟨g11, h⟩ := gd h
    refine r_iaload (pc := 36) dX12_valueOf_36 g10 g11 ?_
    refine r_icmp_gt (pc := 37) (tgt := 55) dX12_valueOf_37 rfl (fun c => ?_) (fun c => ?_)
    · have h := it h c
      refine r_sub [2, 3, 4, 1, 0] rfl ?_
      exact wX12_valueOf_l55 _ _ _ _ _ _ h
    · have h := ie h c
      refine r_aload_n (pc := 40) dX12_valueOf_40 rfl 2 rfl ?_
      obtain ⟨a38, ha38, h⟩ := ob h
      refine r_getS (pc := 41) dX12_valueOf_41 fgX12_163 rfl g1 ha38 ?_
      refine r_iload_n (pc := 44) dX12_valueOf_44 rfl 3 rfl ?_
      obtain ⟨g39, h⟩ := gd h
      obtain ⟨g40, h⟩ := gd h
      refine r_iaload (pc := 45) dX12_valueOf_45 g39 g40 ?_
      refine r_aload_n (pc := 46) dX12_valueOf_46 rfl 2 rfl ?_
      obtain ⟨a41, ha41, h⟩ := ob h
      refine r_getS (pc := 47) dX12_valueOf_47 fgX12_150 rfl g1 ha41 ?_
      refine r_iload (pc := 50) dX12_valueOf_50 0 rfl ?_
      obtain ⟨g42, h⟩ := gd h
      obtain ⟨g43, h⟩ := gd h
      refine r_iaload (pc := 52) dX12_valueOf_52 g42 g43 ?_
      refine r_iadd (pc := 53) dX12_valueOf_53 ?_
      cases h
      exact r_iret dX12_valueOf_54
  · have h := it h c
    refine r_aload_n (pc := 16) dX12_valueOf_16 rfl 1 rfl ?_
    obtain ⟨a44, ha44, h⟩ := ob h
    refine r_getS (pc := 17) dX12_valueOf_17 fgX12_163 rfl g1 ha44 ?_
    refine r_iload_n (pc := 20) dX12_valueOf_20 rfl 2 rfl ?_
    obtain ⟨g45, h⟩ := gd h
    obtain ⟨g46, h⟩ := gd h
    refine r_iaload (pc := 21) dX12_valueOf_21 g45 g46 ?_
    cases h
    exact r_iret dX12_valueOf_22
abbrev WX12_value (G : Gx) (l : Launch) (σ0 : Shp) (X1 : Stt) (rv : Option SV) : Stt → Nat → List (Nat × SV) → List SV → Prop := Wm G l yX12_value cX12_value 3 (some .int) (fun _ => True) (rmx 2 51 σ0 X1.1) σ0 (Qmx G σ0 X1 rv)
def fX12_value (σ : Shp) (I : Nat → Nat → Int32) (R : Nat → Nat → Option Nat) (t : Nat) (x1 : Int32) (x2 : Int32) : Option ((Nat → Nat → Int32) × (Int32)) :=
  if (fX12_isTable x1) = 0 then
    some (I, (0 : Int32))
  else
    if kdx σ t = 13 then
    (fX12_valueOf σ I R t x1 x2).bind fun (I2, r3) =>
    some (I2, r3)
    else none
theorem kX12_value {G : Gx} {l : Launch} {σ : Shp} {I : Nat → Nat → Int32} {J : Nat → Nat → Int64} {D : Nat → Nat → UInt64} {R : Nat → Nat → Option Nat} {t : Nat} {x1 : Int32} {x2 : Int32} {I9 : Nat → Nat → Int32} {r9 : Int32} (h : fX12_value σ I R t x1 x2 = some (I9, r9)) : Con G l yX12_value cX12_value 3 (some .int) 2 51 [vR (some t), vI x1, vI x2] (σ, I, J, D, R) (σ, I9, J, D, R) (some (vI r9)) := by
  unfold fX12_value at h
  refine Con.mk (by decide +kernel) rfl (Nat.le_of_ble_eq_true rfl) ?_
  show WX12_value G l σ (σ, I9, J, D, R) (some (vI r9)) (σ, I, J, D, R) 0 _ []
  refine r_iload_n (pc := 0) dX12_value_0 rfl 1 rfl ?_
  refine r_callS1 (pc := 1) (av := [vI x1]) (S := []) dX12_value_1 (kX12_isTable rfl) mkX12_612 mwX12_isTable rfl ⟨Nat.le_of_ble_eq_true rfl, Nat.le_of_ble_eq_true rfl⟩ (Nat.le_of_ble_eq_true rfl) ⟨Nat.le_refl _, Nat.le_refl _⟩ (fun b => b) ?_
  refine r_if_eq (pc := 4) (tgt := 16) dX12_value_4 rfl (fun c => ?_) (fun c => ?_)
  · have h := it h c
    refine r_iconst (pc := 16) dX12_value_16 kc_iconst_0 ?_
    cases h
    exact r_iret dX12_value_17
  · have h := ie h c
    refine r_aload_n (pc := 7) dX12_value_7 rfl 0 rfl ?_
    refine r_iload_n (pc := 8) dX12_value_8 rfl 1 rfl ?_
    refine r_iload_n (pc := 9) dX12_value_9 rfl 2 rfl ?_
    obtain ⟨g1, h⟩ := gd h
    obtain ⟨⟨I2, r3⟩, hc4, h⟩ := ob h
    refine r_callV1 (pc := 10) (av := [vI x1, vI x2]) (S := []) dX12_value_10 (kX12_valueOf hc4) g1 rfl mkX12_627 mwX12_valueOf rfl ⟨Nat.le_of_ble_eq_true rfl, Nat.le_of_ble_eq_true rfl⟩ (Nat.le_of_ble_eq_true rfl) ⟨Nat.le_refl _, Nat.le_refl _⟩ (fun b => b) ?_
    refine r_goto (pc := 13) (tgt := 17) dX12_value_13 rfl ?_
    cases h
    exact r_iret dX12_value_17
abbrev WX12_laid (G : Gx) (l : Launch) (σ0 : Shp) (X1 : Stt) (rv : Option SV) : Stt → Nat → List (Nat × SV) → List SV → Prop := Wm G l yX12_laid cX12_laid 2 (some .int) (fun _ => True) (rmx 1 22 σ0 X1.1) σ0 (Qmx G σ0 X1 rv)
def fX12_laid (σ : Shp) (I : Nat → Nat → Int32) (R : Nat → Nat → Option Nat) (t : Nat) (x1 : Int32) : Option ((Int32)) :=
  if kdx σ t = 13 then
  if (fX12_in x1 (0 : Int32) ((I t 83) - (1 : Int32))) = 0 then
    some (-1 : Int32)
  else
    ((R t 82) : Option Nat).bind fun a2 =>
    if kdx σ a2 = 20 then
    if ¬ (x1 < 0 ∨ lnx σ a2 ≤ Int32.toNatClampNeg x1) then
    some (I a2 (Int32.toNatClampNeg x1))
    else none
    else none
  else none
theorem kX12_laid {G : Gx} {l : Launch} {σ : Shp} {I : Nat → Nat → Int32} {J : Nat → Nat → Int64} {D : Nat → Nat → UInt64} {R : Nat → Nat → Option Nat} {t : Nat} {x1 : Int32} {r9 : Int32} (h : fX12_laid σ I R t x1 = some r9) : Con G l yX12_laid cX12_laid 2 (some .int) 1 22 [vR (some t), vI x1] (σ, I, J, D, R) (σ, I, J, D, R) (some (vI r9)) := by
  unfold fX12_laid at h
  refine Con.mk (by decide +kernel) rfl (Nat.le_of_ble_eq_true rfl) ?_
  show WX12_laid G l σ (σ, I, J, D, R) (some (vI r9)) (σ, I, J, D, R) 0 _ []
  refine r_iload_n (pc := 0) dX12_laid_0 rfl 1 rfl ?_
  refine r_iconst (pc := 1) dX12_laid_1 kc_iconst_0 ?_
  refine r_aload_n (pc := 2) dX12_laid_2 rfl 0 rfl ?_
  obtain ⟨g1, h⟩ := gd h
  refine r_getI (pc := 3) dX12_laid_3 fgX12_617 rfl g1 ?_
  refine r_iconst (pc := 6) dX12_laid_6 kc_iconst_1 ?_
  refine r_isub (pc := 7) dX12_laid_7 ?_
  refine r_callS1 (pc := 8) (av := [vI x1, vI (0 : Int32), vI ((I t 83) - (1 : Int32))]) (S := []) dX12_laid_8 (kX12_in rfl) mkX12_322 mwX12_in rfl ⟨Nat.le_of_ble_eq_true rfl, Nat.le_of_ble_eq_true rfl⟩ (Nat.le_of_ble_eq_true rfl) ⟨Nat.le_refl _, Nat.le_refl _⟩ (fun b => b) ?_
  refine r_if_eq (pc := 11) (tgt := 23) dX12_laid_11 rfl (fun c => ?_) (fun c => ?_)
  · have h := it h c
    refine r_iconst (pc := 23) dX12_laid_23 kc_iconst_m1 ?_
    cases h
    exact r_iret dX12_laid_24
  · have h := ie h c
    refine r_aload_n (pc := 14) dX12_laid_14 rfl 0 rfl ?_
    obtain ⟨a2, ha2, h⟩ := ob h
    refine r_getS (pc := 15) dX12_laid_15 fgX12_166 rfl g1 ha2 ?_
    refine r_iload_n (pc := 18) dX12_laid_18 rfl 1 rfl ?_
    obtain ⟨g3, h⟩ := gd h
    obtain ⟨g4, h⟩ := gd h
    refine r_iaload (pc := 19) dX12_laid_19 g3 g4 ?_
    refine r_goto (pc := 20) (tgt := 24) dX12_laid_20 rfl ?_
    cases h
    exact r_iret dX12_laid_24
abbrev WX12_read (G : Gx) (l : Launch) (σ0 : Shp) (X1 : Stt) (rv : Option SV) : Stt → Nat → List (Nat × SV) → List SV → Prop := Wm G l yX12_read cX12_read 4 (some .int) (fun _ => True) (rmx 1 22 σ0 X1.1) σ0 (Qmx G σ0 X1 rv)
def fX12_read (σ : Shp) (J : Nat → Nat → Int64) (R : Nat → Nat → Option Nat) (t : Nat) (x1 : Int32) (x2 : Int64) : Option ((Nat → Nat → Int64) × (Int32)) :=
  if (fX12_in x1 (0 : Int32) (8 : Int32)) = 0 then
    some (J, (-2 : Int32))
  else
    if kdx σ t = 13 then
    ((R t 86) : Option Nat).bind fun a2 =>
    if kdx σ a2 = 21 then
    if ¬ (x1 < 0 ∨ lnx σ a2 ≤ Int32.toNatClampNeg x1) then
    let J5 := u2 J a2 (Int32.toNatClampNeg x1) (fX12_fitted (7 : Int32) x2)
    some (J5, (1 : Int32))
    else none
    else none
    else none
theorem kX12_read {G : Gx} {l : Launch} {σ : Shp} {I : Nat → Nat → Int32} {J : Nat → Nat → Int64} {D : Nat → Nat → UInt64} {R : Nat → Nat → Option Nat} {t : Nat} {x1 : Int32} {x2 : Int64} {J9 : Nat → Nat → Int64} {r9 : Int32} (h : fX12_read σ J R t x1 x2 = some (J9, r9)) : Con G l yX12_read cX12_read 4 (some .int) 1 22 [vR (some t), vI x1, vL x2] (σ, I, J, D, R) (σ, I, J9, D, R) (some (vI r9)) := by
  unfold fX12_read at h
  refine Con.mk (by decide +kernel) rfl (Nat.le_of_ble_eq_true rfl) ?_
  show WX12_read G l σ (σ, I, J9, D, R) (some (vI r9)) (σ, I, J, D, R) 0 _ []
  refine r_iload_n (pc := 0) dX12_read_0 rfl 1 rfl ?_
  refine r_iconst (pc := 1) dX12_read_1 kc_iconst_0 ?_
  refine r_bipush (pc := 2) dX12_read_2 kc_bipush_8 ?_
  refine r_callS1 (pc := 4) (av := [vI x1, vI (0 : Int32), vI (8 : Int32)]) (S := []) dX12_read_4 (kX12_in rfl) mkX12_322 mwX12_in rfl ⟨Nat.le_of_ble_eq_true rfl, Nat.le_of_ble_eq_true rfl⟩ (Nat.le_of_ble_eq_true rfl) ⟨Nat.le_refl _, Nat.le_refl _⟩ (fun b => b) ?_
  refine r_ifne (pc := 7) (tgt := 13) dX12_read_7 rfl (fun c => ?_) (fun c => ?_)
  · have h := ie h c
    refine r_aload_n (pc := 13) dX12_read_13 rfl 0 rfl ?_
    obtain ⟨g1, h⟩ := gd h
    obtain ⟨a2, ha2, h⟩ := ob h
    refine r_getS (pc := 14) dX12_read_14 fgX12_174 rfl g1 ha2 ?_
    refine r_iload_n (pc := 17) dX12_read_17 rfl 1 rfl ?_
    refine r_bipush (pc := 18) dX12_read_18 kc_bipush_7 ?_
    refine r_lload_n (pc := 20) dX12_read_20 rfl 2 rfl ?_
    refine r_callS1 (pc := 21) (av := [vI (7 : Int32), vL x2]) (S := [vI x1, vR (some a2)]) dX12_read_21 (kX12_fitted rfl) mkX12_377 mwX12_fitted rfl ⟨Nat.le_of_ble_eq_true rfl, Nat.le_of_ble_eq_true rfl⟩ (Nat.le_of_ble_eq_true rfl) ⟨Nat.le_refl _, Nat.le_refl _⟩ (fun b => b) ?_
    obtain ⟨g3, h⟩ := gd h
    obtain ⟨g4, h⟩ := gd h
    refine r_lastore (pc := 24) dX12_read_24 g3 g4 ?_
    refine r_iconst (pc := 25) dX12_read_25 kc_iconst_1 ?_
    cases h
    exact r_iret dX12_read_26
  · have h := it h c
    refine r_bipush (pc := 10) dX12_read_10 kc_bipush_m2 ?_
    cases h
    exact r_iret dX12_read_12
abbrev WX12_powerOf (G : Gx) (l : Launch) (σ0 : Shp) (X1 : Stt) (rv : Option SV) : Stt → Nat → List (Nat × SV) → List SV → Prop := Wm G l yX12_powerOf cX12_powerOf 7 (some .double) (fun _ => True) (rmx 0 0 σ0 X1.1) σ0 (Qmx G σ0 X1 rv)
def fX12_powerOf_l31   : Nat → (UInt64) → (UInt64) → (Int32) → (Int32) → Option ((UInt64))
  | 0, _, _, _, _ => none
  | n + 1, x1, x3, x5, x6 =>
    if x5 ≤ x6 then
      some x1
    else
      if (FP.dmul x1 x3) &&& 0x7fffffffffffffff ≤ 0x7ff0000000000000 then
      let v3 := (FP.dmul x1 x3)
      let v4 := x6 + (1 : Int32)
      fX12_powerOf_l31 n v3 x3 x5 v4
      else none
theorem wX12_powerOf_l31 {G : Gx} {l : Launch} {σ : Shp} {I : Nat → Nat → Int32} {J : Nat → Nat → Int64} {D : Nat → Nat → UInt64} {R : Nat → Nat → Option Nat} {r9 : UInt64} : ∀ (n : Nat) (x1 : UInt64) (x3 : UInt64) (x5 : Int32) (x6 : Int32), fX12_powerOf_l31 n x1 x3 x5 x6 = some r9 → WX12_powerOf G l σ (σ, I, J, D, R) (some (vD r9)) (σ, I, J, D, R) 31 [(1, vD x1), (3, vD x3), (5, vI x5), (6, vI x6)] [] := by
  intro n
  induction n with
  | zero =>
    intro x1 x3 x5 x6 h
    have h : none = some _ := h
    cases h
  | succ n ih =>
    intro x1 x3 x5 x6 h
    rw [fX12_powerOf_l31] at h
    refine r_iload (pc := 31) dX12_powerOf_31 3 rfl ?_
    refine r_iload (pc := 33) dX12_powerOf_33 2 rfl ?_
    refine r_icmp_ge (pc := 35) (tgt := 48) dX12_powerOf_35 rfl (fun c => ?_) (fun c => ?_)
    · have h := it h c
      refine r_dload_n (pc := 48) dX12_powerOf_48 rfl 0 rfl ?_
      cases h
      exact r_dret dX12_powerOf_49
    · have h := ie h c
      refine r_dload_n (pc := 38) dX12_powerOf_38 rfl 0 rfl ?_
      refine r_dload_n (pc := 39) dX12_powerOf_39 rfl 1 rfl ?_
      obtain ⟨g2, h⟩ := gd h
      refine r_dmul (pc := 40) dX12_powerOf_40 g2 ?_
      refine r_dstore_n (pc := 41) (L' := [(1, vD (FP.dmul x1 x3)), (3, vD x3), (5, vI x5), (6, vI x6)]) dX12_powerOf_41 rfl (by decide) rfl ?_
      refine r_iinc (pc := 42) (v := (x6 + (1 : Int32))) (L' := [(6, vI (x6 + (1 : Int32))), (1, vD (FP.dmul x1 x3)), (3, vD x3), (5, vI x5)]) dX12_powerOf_42 3 rfl (kc_inc_1 _) (by decide) rfl ?_
      refine r_goto (pc := 45) (tgt := 31) dX12_powerOf_45 rfl ?_
      refine r_sub [1, 2, 3, 0] rfl ?_
      exact ih _ _ _ _ h
def fX12_powerOf_b15  (x0 : Int32) (x1 : UInt64) (s0 : UInt64) : Option ((UInt64)) :=
  if 0 ≤ x0 then
    fX12_powerOf_l31 FUx x1 s0 x0 (0 : Int32)
  else
    let v5 := (-x0)
    fX12_powerOf_l31 FUx x1 s0 v5 (0 : Int32)
theorem wX12_powerOf_b15 {G : Gx} {l : Launch} {σ : Shp} {I : Nat → Nat → Int32} {J : Nat → Nat → Int64} {D : Nat → Nat → UInt64} {R : Nat → Nat → Option Nat} {r9 : UInt64} {x0 : Int32} {x1 : UInt64} {s0 : UInt64} (h : fX12_powerOf_b15 x0 x1 s0 = some r9) : WX12_powerOf G l σ (σ, I, J, D, R) (some (vD r9)) (σ, I, J, D, R) 15 [(0, vI x0), (1, vD x1)] [vD s0] := by
  unfold fX12_powerOf_b15 at h
  refine r_dstore_n (pc := 15) (L' := [(3, vD s0), (0, vI x0), (1, vD x1)]) dX12_powerOf_15 rfl (by decide) rfl ?_
  refine r_iload_n (pc := 16) dX12_powerOf_16 rfl 1 rfl ?_
  refine r_ifge (pc := 17) (tgt := 25) dX12_powerOf_17 rfl (fun c => ?_) (fun c => ?_)
  · have h := it h c
    refine r_iload_n (pc := 25) dX12_powerOf_25 rfl 1 rfl ?_
    refine r_istore (pc := 26) (L' := [(5, vI x0), (3, vD s0), (0, vI x0), (1, vD x1)]) dX12_powerOf_26 (by decide) rfl ?_
    refine r_iconst (pc := 28) dX12_powerOf_28 kc_iconst_0 ?_
    refine r_istore (pc := 29) (L' := [(6, vI (0 : Int32)), (5, vI x0), (3, vD s0), (0, vI x0), (1, vD x1)]) dX12_powerOf_29 (by decide) rfl ?_
    refine r_sub [4, 2, 1, 0] rfl ?_
    exact wX12_powerOf_l31 _ _ _ _ _ h
  · have h := ie h c
    refine r_iload_n (pc := 20) dX12_powerOf_20 rfl 1 rfl ?_
    refine r_ineg (pc := 21) dX12_powerOf_21 ?_
    refine r_goto (pc := 22) (tgt := 26) dX12_powerOf_22 rfl ?_
    refine r_istore (pc := 26) (L' := [(5, vI (-x0)), (3, vD s0), (0, vI x0), (1, vD x1)]) dX12_powerOf_26 (by decide) rfl ?_
    refine r_iconst (pc := 28) dX12_powerOf_28 kc_iconst_0 ?_
    refine r_istore (pc := 29) (L' := [(6, vI (0 : Int32)), (5, vI (-x0)), (3, vD s0), (0, vI x0), (1, vD x1)]) dX12_powerOf_29 (by decide) rfl ?_
    refine r_sub [4, 2, 1, 0] rfl ?_
    exact wX12_powerOf_l31 _ _ _ _ _ h
def fX12_powerOf  (x0 : Int32) : Option ((UInt64)) :=
  let v1 := FP.dconst1
  if 0 ≤ x0 then
    fX12_powerOf_b15 x0 v1 (4611686018427387904 : UInt64)
  else
    fX12_powerOf_b15 x0 v1 (4602678819172646912 : UInt64)
theorem kX12_powerOf {G : Gx} {l : Launch} {σ : Shp} {I : Nat → Nat → Int32} {J : Nat → Nat → Int64} {D : Nat → Nat → UInt64} {R : Nat → Nat → Option Nat} {x0 : Int32} {r9 : UInt64} (h : fX12_powerOf x0 = some r9) : Con G l yX12_powerOf cX12_powerOf 7 (some .double) 0 0 [vI x0] (σ, I, J, D, R) (σ, I, J, D, R) (some (vD r9)) := by
  unfold fX12_powerOf at h
  refine Con.mk (by decide +kernel) rfl (Nat.le_of_ble_eq_true rfl) ?_
  show WX12_powerOf G l σ (σ, I, J, D, R) (some (vD r9)) (σ, I, J, D, R) 0 _ []
  refine r_dconst1 (pc := 0) dX12_powerOf_0 ?_
  refine r_dstore_n (pc := 1) (L' := [(1, vD (FP.dconst1)), (0, vI x0)]) dX12_powerOf_1 rfl (by decide) rfl ?_
  refine r_iload_n (pc := 2) dX12_powerOf_2 rfl 1 rfl ?_
  refine r_ifge (pc := 3) (tgt := 12) dX12_powerOf_3 rfl (fun c => ?_) (fun c => ?_)
  · have h := it h c
    refine r_ldc2d (pc := 12) dX12_powerOf_12 cdX12_198 ?_
    refine r_sub [1, 0] rfl ?_
    exact wX12_powerOf_b15 h
  · have h := ie h c
    refine r_ldc2d (pc := 6) dX12_powerOf_6 cdX12_826 ?_
    refine r_goto (pc := 9) (tgt := 15) dX12_powerOf_9 rfl ?_
    refine r_sub [1, 0] rfl ?_
    exact wX12_powerOf_b15 h
abbrev WX12_great (G : Gx) (l : Launch) (σ0 : Shp) (X1 : Stt) (rv : Option SV) : Stt → Nat → List (Nat × SV) → List SV → Prop := Wm G l yX12_great cX12_great 0 (some .double) (fun _ => True) (rmx 1 26 σ0 X1.1) σ0 (Qmx G σ0 X1 rv)
def fX12_great   : Option ((UInt64)) :=
  (fX12_powerOf (1023 : Int32)).bind fun r1 =>
  if (FP.dmul r1 (4611686018427387904 : UInt64)) &&& 0x7fffffffffffffff ≤ 0x7ff0000000000000 then
  some (FP.dmul r1 (4611686018427387904 : UInt64))
  else none
theorem kX12_great {G : Gx} {l : Launch} {σ : Shp} {I : Nat → Nat → Int32} {J : Nat → Nat → Int64} {D : Nat → Nat → UInt64} {R : Nat → Nat → Option Nat}  {r9 : UInt64} (h : fX12_great = some r9) : Con G l yX12_great cX12_great 0 (some .double) 1 26 [] (σ, I, J, D, R) (σ, I, J, D, R) (some (vD r9)) := by
  unfold fX12_great at h
  refine Con.mk (by decide +kernel) rfl (Nat.le_of_ble_eq_true rfl) ?_
  show WX12_great G l σ (σ, I, J, D, R) (some (vD r9)) (σ, I, J, D, R) 0 _ []
  refine r_sipush (pc := 0) dX12_great_0 kc_sipush_1023 ?_
  obtain ⟨r1, hc2, h⟩ := ob h
  refine r_callS1 (pc := 3) (av := [vI (1023 : Int32)]) (S := []) dX12_great_3 (kX12_powerOf hc2) mkX12_828 mwX12_powerOf rfl ⟨Nat.le_of_ble_eq_true rfl, Nat.le_of_ble_eq_true rfl⟩ (Nat.le_of_ble_eq_true rfl) ⟨Nat.le_refl _, Nat.le_refl _⟩ (fun b => b) ?_
  refine r_ldc2d (pc := 6) dX12_great_6 cdX12_198 ?_
  obtain ⟨g3, h⟩ := gd h
  refine r_dmul (pc := 9) dX12_great_9 g3 ?_
  cases h
  exact r_dret dX12_great_10
abbrev WX12_scaled (G : Gx) (l : Launch) (σ0 : Shp) (X1 : Stt) (rv : Option SV) : Stt → Nat → List (Nat × SV) → List SV → Prop := Wm G l yX12_scaled cX12_scaled 4 (some .double) (fun _ => True) (rmx 1 26 σ0 X1.1) σ0 (Qmx G σ0 X1 rv)
def fX12_scaled  (x0 : Int64) (x2 : Int32) : Option ((UInt64)) :=
  if x2 < 0 then
    let v1 := (x2 / (2 : Int32))
    (fX12_powerOf v1).bind fun r2 =>
    if (FP.dmul (FP.l2d x0) r2) &&& 0x7fffffffffffffff ≤ 0x7ff0000000000000 then
    (fX12_powerOf (x2 - v1)).bind fun r5 =>
    if (FP.dmul (FP.dmul (FP.l2d x0) r2) r5) &&& 0x7fffffffffffffff ≤ 0x7ff0000000000000 then
    some (FP.dmul (FP.dmul (FP.l2d x0) r2) r5)
    else none
    else none
  else
    (fX12_powerOf x2).bind fun r8 =>
    if (FP.dmul (FP.l2d x0) r8) &&& 0x7fffffffffffffff ≤ 0x7ff0000000000000 then
    some (FP.dmul (FP.l2d x0) r8)
    else none
theorem kX12_scaled {G : Gx} {l : Launch} {σ : Shp} {I : Nat → Nat → Int32} {J : Nat → Nat → Int64} {D : Nat → Nat → UInt64} {R : Nat → Nat → Option Nat} {x0 : Int64} {x2 : Int32} {r9 : UInt64} (h : fX12_scaled x0 x2 = some r9) : Con G l yX12_scaled cX12_scaled 4 (some .double) 1 26 [vL x0, vI x2] (σ, I, J, D, R) (σ, I, J, D, R) (some (vD r9)) := by
  unfold fX12_scaled at h
  refine Con.mk (by decide +kernel) rfl (Nat.le_of_ble_eq_true rfl) ?_
  show WX12_scaled G l σ (σ, I, J, D, R) (some (vD r9)) (σ, I, J, D, R) 0 _ []
  refine r_iload_n (pc := 0) dX12_scaled_0 rfl 1 rfl ?_
  refine r_if_lt (pc := 1) (tgt := 12) dX12_scaled_1 rfl (fun c => ?_) (fun c => ?_)
  · have h := it h c
    refine r_iload_n (pc := 12) dX12_scaled_12 rfl 1 rfl ?_
    refine r_iconst (pc := 13) dX12_scaled_13 kc_iconst_2 ?_
    refine r_idiv (pc := 14) dX12_scaled_14 (by decide) ?_
    refine r_istore_n (pc := 15) (L' := [(3, vI (x2 / (2 : Int32))), (0, vL x0), (2, vI x2)]) dX12_scaled_15 rfl (by decide) rfl ?_
    refine r_lload_n (pc := 16) dX12_scaled_16 rfl 1 rfl ?_
    refine r_l2d (pc := 17) dX12_scaled_17 ?_
    refine r_iload_n (pc := 18) dX12_scaled_18 rfl 0 rfl ?_
    obtain ⟨r2, hc3, h⟩ := ob h
    refine r_callS1 (pc := 19) (av := [vI (x2 / (2 : Int32))]) (S := [vD (FP.l2d x0)]) dX12_scaled_19 (kX12_powerOf hc3) mkX12_828 mwX12_powerOf rfl ⟨Nat.le_of_ble_eq_true rfl, Nat.le_of_ble_eq_true rfl⟩ (Nat.le_of_ble_eq_true rfl) ⟨Nat.le_refl _, Nat.le_refl _⟩ (fun b => b) ?_
    obtain ⟨g4, h⟩ := gd h
    refine r_dmul (pc := 22) dX12_scaled_22 g4 ?_
    refine r_iload_n (pc := 23) dX12_scaled_23 rfl 2 rfl ?_
    refine r_iload_n (pc := 24) dX12_scaled_24 rfl 0 rfl ?_
    refine r_isub (pc := 25) dX12_scaled_25 ?_
    obtain ⟨r5, hc6, h⟩ := ob h
    refine r_callS1 (pc := 26) (av := [vI (x2 - (x2 / (2 : Int32)))]) (S := [vD (FP.dmul (FP.l2d x0) r2)]) dX12_scaled_26 (kX12_powerOf hc6) mkX12_828 mwX12_powerOf rfl ⟨Nat.le_of_ble_eq_true rfl, Nat.le_of_ble_eq_true rfl⟩ (Nat.le_of_ble_eq_true rfl) ⟨Nat.le_refl _, Nat.le_refl _⟩ (fun b => b) ?_
    obtain ⟨g7, h⟩ := gd h
    refine r_dmul (pc := 29) dX12_scaled_29 g7 ?_
    cases h
    exact r_dret dX12_scaled_30
  · have h := ie h c
    refine r_lload_n (pc := 4) dX12_scaled_4 rfl 0 rfl ?_
    refine r_l2d (pc := 5) dX12_scaled_5 ?_
    refine r_iload_n (pc := 6) dX12_scaled_6 rfl 1 rfl ?_
    obtain ⟨r8, hc9, h⟩ := ob h
    refine r_callS1 (pc := 7) (av := [vI x2]) (S := [vD (FP.l2d x0)]) dX12_scaled_7 (kX12_powerOf hc9) mkX12_828 mwX12_powerOf rfl ⟨Nat.le_of_ble_eq_true rfl, Nat.le_of_ble_eq_true rfl⟩ (Nat.le_of_ble_eq_true rfl) ⟨Nat.le_refl _, Nat.le_refl _⟩ (fun b => b) ?_
    obtain ⟨g10, h⟩ := gd h
    refine r_dmul (pc := 10) dX12_scaled_10 g10 ?_
    cases h
    exact r_dret dX12_scaled_11
abbrev WX12_fromBits (G : Gx) (l : Launch) (σ0 : Shp) (X1 : Stt) (rv : Option SV) : Stt → Nat → List (Nat × SV) → List SV → Prop := Wm G l yX12_fromBits cX12_fromBits 7 (some .double) (fun _ => True) (rmx 2 49 σ0 X1.1) σ0 (Qmx G σ0 X1 rv)
def fX12_fromBits  (x0 : Int64) : Option ((UInt64)) :=
  let v1 := (Int64.toInt32 ((x0 >>> (Int32.toInt64 (52 : Int32) &&& 63)) &&& (2047 : Int64)))
  let v2 := (x0 &&& (4503599627370495 : Int64))
  if v1 = (2047 : Int32) then
    if v2 = (0 : Int64) then
      (fX12_great).bind fun r7 =>
      if (0 : Int64) ≤ x0 then
        some r7
      else
        some (FP.dneg r7)
    else
      some (9221120237041090560 : UInt64)
  else
    if v1 = 0 then
      (fX12_scaled v2 (-1074 : Int32)).bind fun r5 =>
      if (0 : Int64) ≤ x0 then
        some r5
      else
        some (FP.dneg r5)
    else
      (fX12_scaled (v2 ||| (4503599627370496 : Int64)) (v1 - (1075 : Int32))).bind fun r3 =>
      if (0 : Int64) ≤ x0 then
        some r3
      else
        some (FP.dneg r3)
theorem kX12_fromBits {G : Gx} {l : Launch} {σ : Shp} {I : Nat → Nat → Int32} {J : Nat → Nat → Int64} {D : Nat → Nat → UInt64} {R : Nat → Nat → Option Nat} {x0 : Int64} {r9 : UInt64} (h : fX12_fromBits x0 = some r9) : Con G l yX12_fromBits cX12_fromBits 7 (some .double) 2 49 [vL x0] (σ, I, J, D, R) (σ, I, J, D, R) (some (vD r9)) := by
  unfold fX12_fromBits at h
  refine Con.mk (by decide +kernel) rfl (Nat.le_of_ble_eq_true rfl) ?_
  show WX12_fromBits G l σ (σ, I, J, D, R) (some (vD r9)) (σ, I, J, D, R) 0 _ []
  refine r_lload_n (pc := 0) dX12_fromBits_0 rfl 0 rfl ?_
  refine r_bipush (pc := 1) dX12_fromBits_1 kc_bipush_52 ?_
  refine r_lshr (pc := 3) dX12_fromBits_3 ?_
  refine r_ldc2 (pc := 4) dX12_fromBits_4 clX12_840 ?_
  refine r_land (pc := 7) dX12_fromBits_7 ?_
  refine r_l2i (pc := 8) dX12_fromBits_8 ?_
  refine r_istore_n (pc := 9) (L' := [(2, vI (Int64.toInt32 ((x0 >>> (Int32.toInt64 (52 : Int32) &&& 63)) &&& (2047 : Int64)))), (0, vL x0)]) dX12_fromBits_9 rfl (by decide) rfl ?_
  refine r_lload_n (pc := 10) dX12_fromBits_10 rfl 1 rfl ?_
  refine r_ldc2 (pc := 11) dX12_fromBits_11 clX12_842 ?_
  refine r_land (pc := 14) dX12_fromBits_14 ?_
  refine r_lstore_n (pc := 15) (L' := [(3, vL (x0 &&& (4503599627370495 : Int64))), (2, vI (Int64.toInt32 ((x0 >>> (Int32.toInt64 (52 : Int32) &&& 63)) &&& (2047 : Int64)))), (0, vL x0)]) dX12_fromBits_15 rfl (by decide) rfl ?_
  refine r_iload_n (pc := 16) dX12_fromBits_16 rfl 1 rfl ?_
  refine r_sipush (pc := 17) dX12_fromBits_17 kc_sipush_2047 ?_
  refine r_icmp_ne (pc := 20) (tgt := 41) dX12_fromBits_20 rfl (fun c => ?_) (fun c => ?_)
  · have h := ie h c
    refine r_iload_n (pc := 41) dX12_fromBits_41 rfl 1 rfl ?_
    refine r_ifne (pc := 42) (tgt := 55) dX12_fromBits_42 rfl (fun c => ?_) (fun c => ?_)
    · have h := ie h c
      refine r_lload_n (pc := 55) dX12_fromBits_55 rfl 0 rfl ?_
      refine r_ldc2 (pc := 56) dX12_fromBits_56 clX12_852 ?_
      refine r_lor (pc := 59) dX12_fromBits_59 ?_
      refine r_iload_n (pc := 60) dX12_fromBits_60 rfl 1 rfl ?_
      refine r_sipush (pc := 61) dX12_fromBits_61 kc_sipush_1075 ?_
      refine r_isub (pc := 64) dX12_fromBits_64 ?_
      obtain ⟨r3, hc4, h⟩ := ob h
      refine r_callS1 (pc := 65) (av := [vL ((x0 &&& (4503599627370495 : Int64)) ||| (4503599627370496 : Int64)), vI ((Int64.toInt32 ((x0 >>> (Int32.toInt64 (52 : Int32) &&& 63)) &&& (2047 : Int64))) - (1075 : Int32))]) (S := []) dX12_fromBits_65 (kX12_scaled hc4) mkX12_848 mwX12_scaled rfl ⟨Nat.le_of_ble_eq_true rfl, Nat.le_of_ble_eq_true rfl⟩ (Nat.le_of_ble_eq_true rfl) ⟨Nat.le_refl _, Nat.le_refl _⟩ (fun b => b) ?_
      refine r_dstore (pc := 68) (L' := [(5, vD r3), (3, vL (x0 &&& (4503599627370495 : Int64))), (2, vI (Int64.toInt32 ((x0 >>> (Int32.toInt64 (52 : Int32) &&& 63)) &&& (2047 : Int64)))), (0, vL x0)]) dX12_fromBits_68 (by decide) rfl ?_
      refine r_lload_n (pc := 70) dX12_fromBits_70 rfl 3 rfl ?_
      refine r_lconst (pc := 71) dX12_fromBits_71 kc_lconst_0 ?_
      refine r_lcmp (pc := 72) dX12_fromBits_72 ?_
      refine r_ifge (pc := 73) (tgt := 82) dX12_fromBits_73 rfl (fun c => ?_) (fun c => ?_)
      · have h := it h (lgc_ge.mp c)
        refine r_dload (pc := 82) dX12_fromBits_82 0 rfl ?_
        cases h
        exact r_dret dX12_fromBits_84
      · have h := ie h (fun q => c (lgc_ge.mpr q))
        refine r_dload (pc := 76) dX12_fromBits_76 0 rfl ?_
        refine r_dneg (pc := 78) dX12_fromBits_78 ?_
        refine r_goto (pc := 79) (tgt := 84) dX12_fromBits_79 rfl ?_
        cases h
        exact r_dret dX12_fromBits_84
    · have h := it h c
      refine r_lload_n (pc := 45) dX12_fromBits_45 rfl 0 rfl ?_
      refine r_sipush (pc := 46) dX12_fromBits_46 kc_sipush_m1074 ?_
      obtain ⟨r5, hc6, h⟩ := ob h
      refine r_callS1 (pc := 49) (av := [vL (x0 &&& (4503599627370495 : Int64)), vI (-1074 : Int32)]) (S := []) dX12_fromBits_49 (kX12_scaled hc6) mkX12_848 mwX12_scaled rfl ⟨Nat.le_of_ble_eq_true rfl, Nat.le_of_ble_eq_true rfl⟩ (Nat.le_of_ble_eq_true rfl) ⟨Nat.le_refl _, Nat.le_refl _⟩ (fun b => b) ?_
      refine r_goto (pc := 52) (tgt := 68) dX12_fromBits_52 rfl ?_
      refine r_dstore (pc := 68) (L' := [(5, vD r5), (3, vL (x0 &&& (4503599627370495 : Int64))), (2, vI (Int64.toInt32 ((x0 >>> (Int32.toInt64 (52 : Int32) &&& 63)) &&& (2047 : Int64)))), (0, vL x0)]) dX12_fromBits_68 (by decide) rfl ?_
      refine r_lload_n (pc := 70) dX12_fromBits_70 rfl 3 rfl ?_
      refine r_lconst (pc := 71) dX12_fromBits_71 kc_lconst_0 ?_
      refine r_lcmp (pc := 72) dX12_fromBits_72 ?_
      refine r_ifge (pc := 73) (tgt := 82) dX12_fromBits_73 rfl (fun c => ?_) (fun c => ?_)
      · have h := it h (lgc_ge.mp c)
        refine r_dload (pc := 82) dX12_fromBits_82 0 rfl ?_
        cases h
        exact r_dret dX12_fromBits_84
      · have h := ie h (fun q => c (lgc_ge.mpr q))
        refine r_dload (pc := 76) dX12_fromBits_76 0 rfl ?_
        refine r_dneg (pc := 78) dX12_fromBits_78 ?_
        refine r_goto (pc := 79) (tgt := 84) dX12_fromBits_79 rfl ?_
        cases h
        exact r_dret dX12_fromBits_84
  · have h := it h c
    refine r_lload_n (pc := 23) dX12_fromBits_23 rfl 0 rfl ?_
    refine r_lconst (pc := 24) dX12_fromBits_24 kc_lconst_0 ?_
    refine r_lcmp (pc := 25) dX12_fromBits_25 ?_
    refine r_if_eq (pc := 26) (tgt := 33) dX12_fromBits_26 rfl (fun c => ?_) (fun c => ?_)
    · have h := it h (lgc_eq.mp c)
      obtain ⟨r7, hc8, h⟩ := ob h
      refine r_callS1 (pc := 33) (av := []) (S := []) dX12_fromBits_33 (kX12_great hc8) mkX12_844 mwX12_great rfl ⟨Nat.le_of_ble_eq_true rfl, Nat.le_of_ble_eq_true rfl⟩ (Nat.le_of_ble_eq_true rfl) ⟨Nat.le_refl _, Nat.le_refl _⟩ (fun b => b) ?_
      refine r_dstore (pc := 36) (L' := [(5, vD r7), (3, vL (x0 &&& (4503599627370495 : Int64))), (2, vI (Int64.toInt32 ((x0 >>> (Int32.toInt64 (52 : Int32) &&& 63)) &&& (2047 : Int64)))), (0, vL x0)]) dX12_fromBits_36 (by decide) rfl ?_
      refine r_goto (pc := 38) (tgt := 70) dX12_fromBits_38 rfl ?_
      refine r_lload_n (pc := 70) dX12_fromBits_70 rfl 3 rfl ?_
      refine r_lconst (pc := 71) dX12_fromBits_71 kc_lconst_0 ?_
      refine r_lcmp (pc := 72) dX12_fromBits_72 ?_
      refine r_ifge (pc := 73) (tgt := 82) dX12_fromBits_73 rfl (fun c => ?_) (fun c => ?_)
      · have h := it h (lgc_ge.mp c)
        refine r_dload (pc := 82) dX12_fromBits_82 0 rfl ?_
        cases h
        exact r_dret dX12_fromBits_84
      · have h := ie h (fun q => c (lgc_ge.mpr q))
        refine r_dload (pc := 76) dX12_fromBits_76 0 rfl ?_
        refine r_dneg (pc := 78) dX12_fromBits_78 ?_
        refine r_goto (pc := 79) (tgt := 84) dX12_fromBits_79 rfl ?_
        cases h
        exact r_dret dX12_fromBits_84
    · have h := ie h (fun q => c (lgc_eq.mpr q))
      refine r_ldc2d (pc := 29) dX12_fromBits_29 cdX12_838 ?_
      cases h
      exact r_dret dX12_fromBits_32
abbrev WX12_part (G : Gx) (l : Launch) (σ0 : Shp) (X1 : Stt) (rv : Option SV) : Stt → Nat → List (Nat × SV) → List SV → Prop := Wm G l yX12_part cX12_part 5 (some .int) (fun _ => True) (rmx 3 75 σ0 X1.1) σ0 (Qmx G σ0 X1 rv)
def fX12_part (σ : Shp) (D : Nat → Nat → UInt64) (t : Nat) (x1 : Int64) : Option ((Nat → Nat → UInt64) × (Int32)) :=
  let v1 := (fX12_fitted (7 : Int32) x1)
  if v1 = (9221120237041090560 : Int64) then
    some (D, (-2 : Int32))
  else
    (fX12_fromBits v1).bind fun r2 =>
    if 0 ≤ (Op.cmpValue (FP.dcmp r2 (FP.dconst0)) .g) then
      (fX12_fromBits v1).bind fun r4 =>
      if kdx σ t = 13 then
      let D7 := u2 D t 94 r4
      some (D7, (1 : Int32))
      else none
    else
      some (D, (-2 : Int32))
theorem kX12_part {G : Gx} {l : Launch} {σ : Shp} {I : Nat → Nat → Int32} {J : Nat → Nat → Int64} {D : Nat → Nat → UInt64} {R : Nat → Nat → Option Nat} {t : Nat} {x1 : Int64} {D9 : Nat → Nat → UInt64} {r9 : Int32} (h : fX12_part σ D t x1 = some (D9, r9)) : Con G l yX12_part cX12_part 5 (some .int) 3 75 [vR (some t), vL x1] (σ, I, J, D, R) (σ, I, J, D9, R) (some (vI r9)) := by
  unfold fX12_part at h
  refine Con.mk (by decide +kernel) rfl (Nat.le_of_ble_eq_true rfl) ?_
  show WX12_part G l σ (σ, I, J, D9, R) (some (vI r9)) (σ, I, J, D, R) 0 _ []
  refine r_bipush (pc := 0) dX12_part_0 kc_bipush_7 ?_
  refine r_lload_n (pc := 2) dX12_part_2 rfl 1 rfl ?_
  refine r_callS1 (pc := 3) (av := [vI (7 : Int32), vL x1]) (S := []) dX12_part_3 (kX12_fitted rfl) mkX12_377 mwX12_fitted rfl ⟨Nat.le_of_ble_eq_true rfl, Nat.le_of_ble_eq_true rfl⟩ (Nat.le_of_ble_eq_true rfl) ⟨Nat.le_refl _, Nat.le_refl _⟩ (fun b => b) ?_
  refine r_lstore_n (pc := 6) (L' := [(3, vL (fX12_fitted (7 : Int32) x1)), (0, vR (some t)), (1, vL x1)]) dX12_part_6 rfl (by decide) rfl ?_
  refine r_lload_n (pc := 7) dX12_part_7 rfl 0 rfl ?_
  refine r_ldc2 (pc := 8) dX12_part_8 clX12_172 ?_
  refine r_lcmp (pc := 11) dX12_part_11 ?_
  refine r_if_eq (pc := 12) (tgt := 24) dX12_part_12 rfl (fun c => ?_) (fun c => ?_)
  · have h := it h (lgc_eq.mp c)
    refine r_bipush (pc := 24) dX12_part_24 kc_bipush_m2 ?_
    cases h
    exact r_iret dX12_part_26
  · have h := ie h (fun q => c (lgc_eq.mpr q))
    refine r_lload_n (pc := 15) dX12_part_15 rfl 0 rfl ?_
    obtain ⟨r2, hc3, h⟩ := ob h
    refine r_callS1 (pc := 16) (av := [vL (fX12_fitted (7 : Int32) x1)]) (S := []) dX12_part_16 (kX12_fromBits hc3) mkX12_630 mwX12_fromBits rfl ⟨Nat.le_of_ble_eq_true rfl, Nat.le_of_ble_eq_true rfl⟩ (Nat.le_of_ble_eq_true rfl) ⟨Nat.le_refl _, Nat.le_refl _⟩ (fun b => b) ?_
    refine r_dconst0 (pc := 19) dX12_part_19 ?_
    refine r_dcmp (pc := 20) dX12_part_20 ?_
    refine r_ifge (pc := 21) (tgt := 27) dX12_part_21 rfl (fun c => ?_) (fun c => ?_)
    · have h := it h c
      refine r_aload_n (pc := 27) dX12_part_27 rfl 1 rfl ?_
      refine r_lload_n (pc := 28) dX12_part_28 rfl 0 rfl ?_
      obtain ⟨r4, hc5, h⟩ := ob h
      refine r_callS1 (pc := 29) (av := [vL (fX12_fitted (7 : Int32) x1)]) (S := [vR (some t)]) dX12_part_29 (kX12_fromBits hc5) mkX12_630 mwX12_fromBits rfl ⟨Nat.le_of_ble_eq_true rfl, Nat.le_of_ble_eq_true rfl⟩ (Nat.le_of_ble_eq_true rfl) ⟨Nat.le_refl _, Nat.le_refl _⟩ (fun b => b) ?_
      obtain ⟨g6, h⟩ := gd h
      refine r_putD (pc := 32) dX12_part_32 fwX12_200 rfl g6 ?_
      refine r_iconst (pc := 35) dX12_part_35 kc_iconst_1 ?_
      cases h
      exact r_iret dX12_part_36
    · have h := ie h c
      refine r_bipush (pc := 24) dX12_part_24 kc_bipush_m2 ?_
      cases h
      exact r_iret dX12_part_26
abbrev WX12_probe (G : Gx) (l : Launch) (σ0 : Shp) (X1 : Stt) (rv : Option SV) : Stt → Nat → List (Nat × SV) → List SV → Prop := Wm G l yX12_probe cX12_probe 3 (some .int) (fun _ => True) (rmx 1 22 σ0 X1.1) σ0 (Qmx G σ0 X1 rv)
def fX12_probe (σ : Shp) (I : Nat → Nat → Int32) (R : Nat → Nat → Option Nat) (t : Nat) (x1 : Int32) (x2 : Int32) : Option ((Int32)) :=
  if (fX12_in x1 (0 : Int32) (8 : Int32)) = 0 then
    some (-2 : Int32)
  else
    if x2 = (0 : Int32) then
      if kdx σ t = 13 then
      ((R t 88) : Option Nat).bind fun a23 =>
      if kdx σ a23 = 24 then
      if ¬ (x1 < 0 ∨ lnx σ a23 ≤ Int32.toNatClampNeg x1) then
      if (I a23 (Int32.toNatClampNeg x1)) = 0 then
        some (1 : Int32)
      else
        some (0 : Int32)
      else none
      else none
      else none
    else
    if x2 = (1 : Int32) then
      if kdx σ t = 13 then
      ((R t 89) : Option Nat).bind fun a19 =>
      if kdx σ a19 = 20 then
      if ¬ (x1 < 0 ∨ lnx σ a19 ≤ Int32.toNatClampNeg x1) then
      some (I a19 (Int32.toNatClampNeg x1))
      else none
      else none
      else none
    else
    if x2 = (2 : Int32) then
      if kdx σ t = 13 then
      ((R t 90) : Option Nat).bind fun a15 =>
      if kdx σ a15 = 20 then
      if ¬ (x1 < 0 ∨ lnx σ a15 ≤ Int32.toNatClampNeg x1) then
      some (I a15 (Int32.toNatClampNeg x1))
      else none
      else none
      else none
    else
    if x2 = (3 : Int32) then
      if kdx σ t = 13 then
      ((R t 91) : Option Nat).bind fun a11 =>
      if kdx σ a11 = 20 then
      if ¬ (x1 < 0 ∨ lnx σ a11 ≤ Int32.toNatClampNeg x1) then
      some (I a11 (Int32.toNatClampNeg x1))
      else none
      else none
      else none
    else
    if x2 = (4 : Int32) then
      if kdx σ t = 13 then
      ((R t 92) : Option Nat).bind fun a7 =>
      if kdx σ a7 = 20 then
      if ¬ (x1 < 0 ∨ lnx σ a7 ≤ Int32.toNatClampNeg x1) then
      some (I a7 (Int32.toNatClampNeg x1))
      else none
      else none
      else none
    else
    some (-2 : Int32)
theorem kX12_probe {G : Gx} {l : Launch} {σ : Shp} {I : Nat → Nat → Int32} {J : Nat → Nat → Int64} {D : Nat → Nat → UInt64} {R : Nat → Nat → Option Nat} {t : Nat} {x1 : Int32} {x2 : Int32} {r9 : Int32} (h : fX12_probe σ I R t x1 x2 = some r9) : Con G l yX12_probe cX12_probe 3 (some .int) 1 22 [vR (some t), vI x1, vI x2] (σ, I, J, D, R) (σ, I, J, D, R) (some (vI r9)) := by
  unfold fX12_probe at h
  refine Con.mk (by decide +kernel) rfl (Nat.le_of_ble_eq_true rfl) ?_
  show WX12_probe G l σ (σ, I, J, D, R) (some (vI r9)) (σ, I, J, D, R) 0 _ []
  refine r_iload_n (pc := 0) dX12_probe_0 rfl 1 rfl ?_
  refine r_iconst (pc := 1) dX12_probe_1 kc_iconst_0 ?_
  refine r_bipush (pc := 2) dX12_probe_2 kc_bipush_8 ?_
  refine r_callS1 (pc := 4) (av := [vI x1, vI (0 : Int32), vI (8 : Int32)]) (S := []) dX12_probe_4 (kX12_in rfl) mkX12_322 mwX12_in rfl ⟨Nat.le_of_ble_eq_true rfl, Nat.le_of_ble_eq_true rfl⟩ (Nat.le_of_ble_eq_true rfl) ⟨Nat.le_refl _, Nat.le_refl _⟩ (fun b => b) ?_
  refine r_ifne (pc := 7) (tgt := 13) dX12_probe_7 rfl (fun c => ?_) (fun c => ?_)
  · have h := ie h c
    refine r_iload_n (pc := 13) dX12_probe_13 rfl 2 rfl ?_
    rcases itc h with ⟨c1, h⟩ | ⟨c1, h⟩
    · refine r_tsIn (x := x2) (pc := 14) (tgt := 48) dX12_probe_14 (by rw [c1]; decide) (by rw [c1]; decide) (by rw [c1]; rfl) rfl ?_
      refine r_aload_n (pc := 48) dX12_probe_48 rfl 0 rfl ?_
      obtain ⟨g22, h⟩ := gd h
      obtain ⟨a23, ha23, h⟩ := ob h
      refine r_getS (pc := 49) dX12_probe_49 fgX12_180 rfl g22 ha23 ?_
      refine r_iload_n (pc := 52) dX12_probe_52 rfl 1 rfl ?_
      obtain ⟨g24, h⟩ := gd h
      obtain ⟨g25, h⟩ := gd h
      refine r_zaload (pc := 53) dX12_probe_53 g24 g25 ?_
      refine r_if_eq (pc := 54) (tgt := 61) dX12_probe_54 rfl (fun c => ?_) (fun c => ?_)
      · have h := it h c
        refine r_iconst (pc := 61) dX12_probe_61 kc_iconst_1 ?_
        cases h
        exact r_iret dX12_probe_62
      · have h := ie h c
        refine r_iconst (pc := 57) dX12_probe_57 kc_iconst_0 ?_
        refine r_goto (pc := 58) (tgt := 62) dX12_probe_58 rfl ?_
        cases h
        exact r_iret dX12_probe_62
    · rcases itc h with ⟨c2, h⟩ | ⟨c2, h⟩
      · refine r_tsIn (x := x2) (pc := 14) (tgt := 63) dX12_probe_14 (by rw [c2]; decide) (by rw [c2]; decide) (by rw [c2]; rfl) rfl ?_
        refine r_aload_n (pc := 63) dX12_probe_63 rfl 0 rfl ?_
        obtain ⟨g18, h⟩ := gd h
        obtain ⟨a19, ha19, h⟩ := ob h
        refine r_getS (pc := 64) dX12_probe_64 fgX12_183 rfl g18 ha19 ?_
        refine r_iload_n (pc := 67) dX12_probe_67 rfl 1 rfl ?_
        obtain ⟨g20, h⟩ := gd h
        obtain ⟨g21, h⟩ := gd h
        refine r_iaload (pc := 68) dX12_probe_68 g20 g21 ?_
        cases h
        exact r_iret dX12_probe_69
      · rcases itc h with ⟨c3, h⟩ | ⟨c3, h⟩
        · refine r_tsIn (x := x2) (pc := 14) (tgt := 70) dX12_probe_14 (by rw [c3]; decide) (by rw [c3]; decide) (by rw [c3]; rfl) rfl ?_
          refine r_aload_n (pc := 70) dX12_probe_70 rfl 0 rfl ?_
          obtain ⟨g14, h⟩ := gd h
          obtain ⟨a15, ha15, h⟩ := ob h
          refine r_getS (pc := 71) dX12_probe_71 fgX12_186 rfl g14 ha15 ?_
          refine r_iload_n (pc := 74) dX12_probe_74 rfl 1 rfl ?_
          obtain ⟨g16, h⟩ := gd h
          obtain ⟨g17, h⟩ := gd h
          refine r_iaload (pc := 75) dX12_probe_75 g16 g17 ?_
          cases h
          exact r_iret dX12_probe_76
        · rcases itc h with ⟨c4, h⟩ | ⟨c4, h⟩
          · refine r_tsIn (x := x2) (pc := 14) (tgt := 77) dX12_probe_14 (by rw [c4]; decide) (by rw [c4]; decide) (by rw [c4]; rfl) rfl ?_
            refine r_aload_n (pc := 77) dX12_probe_77 rfl 0 rfl ?_
            obtain ⟨g10, h⟩ := gd h
            obtain ⟨a11, ha11, h⟩ := ob h
            refine r_getS (pc := 78) dX12_probe_78 fgX12_189 rfl g10 ha11 ?_
            refine r_iload_n (pc := 81) dX12_probe_81 rfl 1 rfl ?_
            obtain ⟨g12, h⟩ := gd h
            obtain ⟨g13, h⟩ := gd h
            refine r_iaload (pc := 82) dX12_probe_82 g12 g13 ?_
            cases h
            exact r_iret dX12_probe_83
          · rcases itc h with ⟨c5, h⟩ | ⟨c5, h⟩
            · refine r_tsIn (x := x2) (pc := 14) (tgt := 84) dX12_probe_14 (by rw [c5]; decide) (by rw [c5]; decide) (by rw [c5]; rfl) rfl ?_
              refine r_aload_n (pc := 84) dX12_probe_84 rfl 0 rfl ?_
              obtain ⟨g6, h⟩ := gd h
              obtain ⟨a7, ha7, h⟩ := ob h
              refine r_getS (pc := 85) dX12_probe_85 fgX12_192 rfl g6 ha7 ?_
              refine r_iload_n (pc := 88) dX12_probe_88 rfl 1 rfl ?_
              obtain ⟨g8, h⟩ := gd h
              obtain ⟨g9, h⟩ := gd h
              refine r_iaload (pc := 89) dX12_probe_89 g8 g9 ?_
              cases h
              exact r_iret dX12_probe_90
            · refine r_tsOut (x := x2) (pc := 14) (tgt := 91) dX12_probe_14 (by have ec1 := i32n c1 (k := 0) rfl; have ec2 := i32n c2 (k := 1) rfl; have ec3 := i32n c3 (k := 2) rfl; have ec4 := i32n c4 (k := 3) rfl; have ec5 := i32n c5 (k := 4) rfl; omega) rfl ?_
              refine r_bipush (pc := 91) dX12_probe_91 kc_bipush_m2 ?_
              cases h
              exact r_iret dX12_probe_93
  · have h := it h c
    refine r_bipush (pc := 10) dX12_probe_10 kc_bipush_m2 ?_
    cases h
    exact r_iret dX12_probe_12
abbrev WX12_voted (G : Gx) (l : Launch) (σ0 : Shp) (X1 : Stt) (rv : Option SV) : Stt → Nat → List (Nat × SV) → List SV → Prop := Wm G l yX12_voted cX12_voted 2 (some .long) (fun _ => True) (rmx 1 22 σ0 X1.1) σ0 (Qmx G σ0 X1 rv)
def fX12_voted (σ : Shp) (J : Nat → Nat → Int64) (R : Nat → Nat → Option Nat) (t : Nat) (x1 : Int32) : Option ((Int64)) :=
  if (fX12_in x1 (0 : Int32) (2 : Int32)) = 0 then
    some (0 : Int64)
  else
    if kdx σ t = 13 then
    ((R t 95) : Option Nat).bind fun a2 =>
    if kdx σ a2 = 21 then
    if ¬ (x1 < 0 ∨ lnx σ a2 ≤ Int32.toNatClampNeg x1) then
    some (J a2 (Int32.toNatClampNeg x1))
    else none
    else none
    else none
theorem kX12_voted {G : Gx} {l : Launch} {σ : Shp} {I : Nat → Nat → Int32} {J : Nat → Nat → Int64} {D : Nat → Nat → UInt64} {R : Nat → Nat → Option Nat} {t : Nat} {x1 : Int32} {r9 : Int64} (h : fX12_voted σ J R t x1 = some r9) : Con G l yX12_voted cX12_voted 2 (some .long) 1 22 [vR (some t), vI x1] (σ, I, J, D, R) (σ, I, J, D, R) (some (vL r9)) := by
  unfold fX12_voted at h
  refine Con.mk (by decide +kernel) rfl (Nat.le_of_ble_eq_true rfl) ?_
  show WX12_voted G l σ (σ, I, J, D, R) (some (vL r9)) (σ, I, J, D, R) 0 _ []
  refine r_iload_n (pc := 0) dX12_voted_0 rfl 1 rfl ?_
  refine r_iconst (pc := 1) dX12_voted_1 kc_iconst_0 ?_
  refine r_iconst (pc := 2) dX12_voted_2 kc_iconst_2 ?_
  refine r_callS1 (pc := 3) (av := [vI x1, vI (0 : Int32), vI (2 : Int32)]) (S := []) dX12_voted_3 (kX12_in rfl) mkX12_322 mwX12_in rfl ⟨Nat.le_of_ble_eq_true rfl, Nat.le_of_ble_eq_true rfl⟩ (Nat.le_of_ble_eq_true rfl) ⟨Nat.le_refl _, Nat.le_refl _⟩ (fun b => b) ?_
  refine r_if_eq (pc := 6) (tgt := 18) dX12_voted_6 rfl (fun c => ?_) (fun c => ?_)
  · have h := it h c
    refine r_lconst (pc := 18) dX12_voted_18 kc_lconst_0 ?_
    cases h
    exact r_lret dX12_voted_19
  · have h := ie h c
    refine r_aload_n (pc := 9) dX12_voted_9 rfl 0 rfl ?_
    obtain ⟨g1, h⟩ := gd h
    obtain ⟨a2, ha2, h⟩ := ob h
    refine r_getS (pc := 10) dX12_voted_10 fgX12_204 rfl g1 ha2 ?_
    refine r_iload_n (pc := 13) dX12_voted_13 rfl 1 rfl ?_
    obtain ⟨g3, h⟩ := gd h
    obtain ⟨g4, h⟩ := gd h
    refine r_laload (pc := 14) dX12_voted_14 g3 g4 ?_
    refine r_goto (pc := 15) (tgt := 19) dX12_voted_15 rfl ?_
    cases h
    exact r_lret dX12_voted_19
abbrev WX12_reads (G : Gx) (l : Launch) (σ0 : Shp) (X1 : Stt) (rv : Option SV) : Stt → Nat → List (Nat × SV) → List SV → Prop := Wm G l yX12_reads cX12_reads 2 (some .boolean) (fun _ => True) (rmx 0 0 σ0 X1.1) σ0 (Qmx G σ0 X1 rv)
def fX12_reads (σ : Shp) (J : Nat → Nat → Int64) (R : Nat → Nat → Option Nat) (t : Nat) (x1 : Int32) : Option ((Int32)) :=
  if kdx σ t = 13 then
  ((R t 86) : Option Nat).bind fun a2 =>
  if kdx σ a2 = 21 then
  if ¬ (x1 < 0 ∨ lnx σ a2 ≤ Int32.toNatClampNeg x1) then
  if (J a2 (Int32.toNatClampNeg x1)) = (9221120237041090560 : Int64) then
    some (0 : Int32)
  else
    some (1 : Int32)
  else none
  else none
  else none
theorem kX12_reads {G : Gx} {l : Launch} {σ : Shp} {I : Nat → Nat → Int32} {J : Nat → Nat → Int64} {D : Nat → Nat → UInt64} {R : Nat → Nat → Option Nat} {t : Nat} {x1 : Int32} {r9 : Int32} (h : fX12_reads σ J R t x1 = some r9) : Con G l yX12_reads cX12_reads 2 (some .boolean) 0 0 [vR (some t), vI x1] (σ, I, J, D, R) (σ, I, J, D, R) (some (vI r9)) := by
  unfold fX12_reads at h
  refine Con.mk (by decide +kernel) rfl (Nat.le_of_ble_eq_true rfl) ?_
  show WX12_reads G l σ (σ, I, J, D, R) (some (vI r9)) (σ, I, J, D, R) 0 _ []
  refine r_aload_n (pc := 0) dX12_reads_0 rfl 0 rfl ?_
  obtain ⟨g1, h⟩ := gd h
  obtain ⟨a2, ha2, h⟩ := ob h
  refine r_getS (pc := 1) dX12_reads_1 fgX12_174 rfl g1 ha2 ?_
  refine r_iload_n (pc := 4) dX12_reads_4 rfl 1 rfl ?_
  obtain ⟨g3, h⟩ := gd h
  obtain ⟨g4, h⟩ := gd h
  refine r_laload (pc := 5) dX12_reads_5 g3 g4 ?_
  refine r_ldc2 (pc := 6) dX12_reads_6 clX12_172 ?_
  refine r_lcmp (pc := 9) dX12_reads_9 ?_
  refine r_if_eq (pc := 10) (tgt := 17) dX12_reads_10 rfl (fun c => ?_) (fun c => ?_)
  · have h := it h (lgc_eq.mp c)
    refine r_iconst (pc := 17) dX12_reads_17 kc_iconst_0 ?_
    cases h
    exact r_zret dX12_reads_18 (Or.inl rfl)
  · have h := ie h (fun q => c (lgc_eq.mpr q))
    refine r_iconst (pc := 13) dX12_reads_13 kc_iconst_1 ?_
    refine r_goto (pc := 14) (tgt := 18) dX12_reads_14 rfl ?_
    cases h
    exact r_zret dX12_reads_18 (Or.inr rfl)
abbrev WX12_isBelow (G : Gx) (l : Launch) (σ0 : Shp) (X1 : Stt) (rv : Option SV) : Stt → Nat → List (Nat × SV) → List SV → Prop := Wm G l yX12_isBelow cX12_isBelow 8 (some .boolean) (fun _ => True) (rmx 0 0 σ0 X1.1) σ0 (Qmx G σ0 X1 rv)
def fX12_isBelow_b19  (x2 : Int64) (s0 : Int64) : (Int32) :=
  if (0 : Int64) ≤ x2 then
    if x2 ≤ s0 then
      (0 : Int32)
    else
      (1 : Int32)
  else
    let v1 := ((x2 &&& (9223372036854775807 : Int64)) ^^^ (-1 : Int64))
    if v1 ≤ s0 then
      (0 : Int32)
    else
      (1 : Int32)
theorem wX12_isBelow_b19 {G : Gx} {l : Launch} {σ : Shp} {I : Nat → Nat → Int32} {J : Nat → Nat → Int64} {D : Nat → Nat → UInt64} {R : Nat → Nat → Option Nat} {r9 : Int32} {x2 : Int64} {s0 : Int64} (h : fX12_isBelow_b19 x2 s0 = r9) : WX12_isBelow G l σ (σ, I, J, D, R) (some (vI r9)) (σ, I, J, D, R) 19 [(2, vL x2)] [vL s0] := by
  unfold fX12_isBelow_b19 at h
  refine r_lstore (pc := 19) (L' := [(4, vL s0), (2, vL x2)]) dX12_isBelow_19 (by decide) rfl ?_
  refine r_lload_n (pc := 21) dX12_isBelow_21 rfl 1 rfl ?_
  refine r_lconst (pc := 22) dX12_isBelow_22 kc_lconst_0 ?_
  refine r_lcmp (pc := 23) dX12_isBelow_23 ?_
  refine r_ifge (pc := 24) (tgt := 39) dX12_isBelow_24 rfl (fun c => ?_) (fun c => ?_)
  · have h := it h (lgc_ge.mp c)
    refine r_lload_n (pc := 39) dX12_isBelow_39 rfl 1 rfl ?_
    refine r_lstore (pc := 40) (L' := [(6, vL x2), (4, vL s0), (2, vL x2)]) dX12_isBelow_40 (by decide) rfl ?_
    refine r_lload (pc := 42) dX12_isBelow_42 1 rfl ?_
    refine r_lload (pc := 44) dX12_isBelow_44 0 rfl ?_
    refine r_lcmp (pc := 46) dX12_isBelow_46 ?_
    refine r_ifge (pc := 47) (tgt := 54) dX12_isBelow_47 rfl (fun c => ?_) (fun c => ?_)
    · have h := it h (lgc_ge.mp c)
      refine r_iconst (pc := 54) dX12_isBelow_54 kc_iconst_0 ?_
      subst h
      exact r_zret dX12_isBelow_55 (Or.inl rfl)
    · have h := ie h (fun q => c (lgc_ge.mpr q))
      refine r_iconst (pc := 50) dX12_isBelow_50 kc_iconst_1 ?_
      refine r_goto (pc := 51) (tgt := 55) dX12_isBelow_51 rfl ?_
      subst h
      exact r_zret dX12_isBelow_55 (Or.inr rfl)
  · have h := ie h (fun q => c (lgc_ge.mpr q))
    refine r_lload_n (pc := 27) dX12_isBelow_27 rfl 1 rfl ?_
    refine r_ldc2 (pc := 28) dX12_isBelow_28 clX12_341 ?_
    refine r_land (pc := 31) dX12_isBelow_31 ?_
    refine r_ldc2 (pc := 32) dX12_isBelow_32 clX12_634 ?_
    refine r_lxor (pc := 35) dX12_isBelow_35 ?_
    refine r_goto (pc := 36) (tgt := 40) dX12_isBelow_36 rfl ?_
    refine r_lstore (pc := 40) (L' := [(6, vL ((x2 &&& (9223372036854775807 : Int64)) ^^^ (-1 : Int64))), (4, vL s0), (2, vL x2)]) dX12_isBelow_40 (by decide) rfl ?_
    refine r_lload (pc := 42) dX12_isBelow_42 1 rfl ?_
    refine r_lload (pc := 44) dX12_isBelow_44 0 rfl ?_
    refine r_lcmp (pc := 46) dX12_isBelow_46 ?_
    refine r_ifge (pc := 47) (tgt := 54) dX12_isBelow_47 rfl (fun c => ?_) (fun c => ?_)
    · have h := it h (lgc_ge.mp c)
      refine r_iconst (pc := 54) dX12_isBelow_54 kc_iconst_0 ?_
      subst h
      exact r_zret dX12_isBelow_55 (Or.inl rfl)
    · have h := ie h (fun q => c (lgc_ge.mpr q))
      refine r_iconst (pc := 50) dX12_isBelow_50 kc_iconst_1 ?_
      refine r_goto (pc := 51) (tgt := 55) dX12_isBelow_51 rfl ?_
      subst h
      exact r_zret dX12_isBelow_55 (Or.inr rfl)
def fX12_isBelow  (x0 : Int64) (x2 : Int64) : (Int32) :=
  if (0 : Int64) ≤ x0 then
    fX12_isBelow_b19 x2 x0
  else
    fX12_isBelow_b19 x2 ((x0 &&& (9223372036854775807 : Int64)) ^^^ (-1 : Int64))
theorem zX12_isBelow  (x0 : Int64) (x2 : Int64) : fX12_isBelow x0 x2 = 0 ∨ fX12_isBelow x0 x2 = 1 := by
  unfold fX12_isBelow
  repeat' (first | refine itz ?_ ?_ | exact Or.inl rfl | exact Or.inr rfl)
theorem kX12_isBelow {G : Gx} {l : Launch} {σ : Shp} {I : Nat → Nat → Int32} {J : Nat → Nat → Int64} {D : Nat → Nat → UInt64} {R : Nat → Nat → Option Nat} {x0 : Int64} {x2 : Int64} {r9 : Int32} (h : fX12_isBelow x0 x2 = r9) : Con G l yX12_isBelow cX12_isBelow 8 (some .boolean) 0 0 [vL x0, vL x2] (σ, I, J, D, R) (σ, I, J, D, R) (some (vI r9)) := by
  unfold fX12_isBelow at h
  refine Con.mk (by decide +kernel) rfl (Nat.le_of_ble_eq_true rfl) ?_
  show WX12_isBelow G l σ (σ, I, J, D, R) (some (vI r9)) (σ, I, J, D, R) 0 _ []
  refine r_lload_n (pc := 0) dX12_isBelow_0 rfl 0 rfl ?_
  refine r_lconst (pc := 1) dX12_isBelow_1 kc_lconst_0 ?_
  refine r_lcmp (pc := 2) dX12_isBelow_2 ?_
  refine r_ifge (pc := 3) (tgt := 18) dX12_isBelow_3 rfl (fun c => ?_) (fun c => ?_)
  · have h := it h (lgc_ge.mp c)
    refine r_lload_n (pc := 18) dX12_isBelow_18 rfl 0 rfl ?_
    refine r_sub [1] rfl ?_
    exact wX12_isBelow_b19 h
  · have h := ie h (fun q => c (lgc_ge.mpr q))
    refine r_lload_n (pc := 6) dX12_isBelow_6 rfl 0 rfl ?_
    refine r_ldc2 (pc := 7) dX12_isBelow_7 clX12_341 ?_
    refine r_land (pc := 10) dX12_isBelow_10 ?_
    refine r_ldc2 (pc := 11) dX12_isBelow_11 clX12_634 ?_
    refine r_lxor (pc := 14) dX12_isBelow_14 ?_
    refine r_goto (pc := 15) (tgt := 19) dX12_isBelow_15 rfl ?_
    refine r_sub [1] rfl ?_
    exact wX12_isBelow_b19 h
abbrev WX12_find (G : Gx) (l : Launch) (σ0 : Shp) (X1 : Stt) (rv : Option SV) : Stt → Nat → List (Nat × SV) → List SV → Prop := Wm G l yX12_find cX12_find 7 none (fun _ => True) (rmx 1 27 σ0 X1.1) σ0 (Qmx G σ0 X1 rv)
def fX12_find_b122 (q52 : (Nat → Nat → Int64) → (Int32) → (Int32) → (Int32) → (Option ((Nat → Nat → Int64)))) (q68 : (Nat → Nat → Int64) → (Int32) → (Int32) → (Int32) → (Int32) → (Int32) → (Option ((Nat → Nat → Int64)))) (σ : Shp) (I : Nat → Nat → Int32) (R : Nat → Nat → Option Nat) (t : Nat) (J : Nat → Nat → Int64) (x1 : Int32) (x2 : Int32) (x3 : Int32) (x4 : Int32) (x5 : Int32) (s0 : Int32) : Option ((Nat → Nat → Int64)) :=
  if kdx σ t = 13 then
  (fX12_reads σ J R t x5).bind fun r29 =>
  if r29 = 0 then
    let v31 := (x4 + (0 : Int32))
    let v32 := x5 + (3 : Int32)
    q68 J x1 x2 x3 v31 v32
  else
    ((R t 88) : Option Nat).bind fun a33 =>
    if kdx σ a33 = 24 then
    if ¬ (x5 < 0 ∨ lnx σ a33 ≤ Int32.toNatClampNeg x5) then
    if (I a33 (Int32.toNatClampNeg x5)) = 0 then
      if s0 = 0 then
        let v38 := (x4 + (0 : Int32))
        let v39 := x5 + (3 : Int32)
        q68 J x1 x2 x3 v38 v39
      else
        let v40 := (x4 + (1 : Int32))
        let v41 := x5 + (3 : Int32)
        q68 J x1 x2 x3 v40 v41
    else
      let v36 := (x4 + (0 : Int32))
      let v37 := x5 + (3 : Int32)
      q68 J x1 x2 x3 v36 v37
    else none
    else none
  else none
theorem wX12_find_b122 {G : Gx} {l : Launch} {σ : Shp} {I : Nat → Nat → Int32} {J : Nat → Nat → Int64} {D : Nat → Nat → UInt64} {R : Nat → Nat → Option Nat} {t : Nat} {J9 : Nat → Nat → Int64} {q52 : (Nat → Nat → Int64) → (Int32) → (Int32) → (Int32) → (Option ((Nat → Nat → Int64)))} {q68 : (Nat → Nat → Int64) → (Int32) → (Int32) → (Int32) → (Int32) → (Int32) → (Option ((Nat → Nat → Int64)))} {x1 : Int32} {x2 : Int32} {x3 : Int32} {x4 : Int32} {x5 : Int32} {s0 : Int32} (hq52 : ∀ (J : Nat → Nat → Int64) (x1 : Int32) (x2 : Int32) (x3 : Int32), q52 J x1 x2 x3 = some J9 → WX12_find G l σ (σ, I, J9, D, R) none (σ, I, J, D, R) 52 [(0, vR (some t)), (1, vI x1), (2, vI x2), (3, vI x3)] []) (hq68 : ∀ (J : Nat → Nat → Int64) (x1 : Int32) (x2 : Int32) (x3 : Int32) (x4 : Int32) (x5 : Int32), q68 J x1 x2 x3 x4 x5 = some J9 → WX12_find G l σ (σ, I, J9, D, R) none (σ, I, J, D, R) 68 [(0, vR (some t)), (1, vI x1), (2, vI x2), (3, vI x3), (4, vI x4), (5, vI x5)] []) (h : fX12_find_b122 q52 q68 σ I R t J x1 x2 x3 x4 x5 s0 = some J9) : WX12_find G l σ (σ, I, J9, D, R) none (σ, I, J, D, R) 122 [(0, vR (some t)), (1, vI x1), (2, vI x2), (3, vI x3), (4, vI x4), (5, vI x5)] [vI s0] := by
  unfold fX12_find_b122 at h
  refine r_istore (pc := 122) (L' := [(6, vI s0), (0, vR (some t)), (1, vI x1), (2, vI x2), (3, vI x3), (4, vI x4), (5, vI x5)]) dX12_find_122 (by decide) rfl ?_
  refine r_iload (pc := 124) dX12_find_124 5 rfl ?_
  refine r_aload_n (pc := 126) dX12_find_126 rfl 1 rfl ?_
  refine r_iload (pc := 127) dX12_find_127 6 rfl ?_
  obtain ⟨g28, h⟩ := gd h
  obtain ⟨r29, hc30, h⟩ := ob h
  refine r_callV1 (pc := 129) (av := [vI x5]) (S := [vI x4]) dX12_find_129 (kX12_reads hc30) g28 rfl mkX12_636 mwX12_reads rfl ⟨Nat.le_of_ble_eq_true rfl, Nat.le_of_ble_eq_true rfl⟩ (Nat.le_of_ble_eq_true rfl) ⟨Nat.le_refl _, Nat.le_refl _⟩ (fun b => b) ?_
  refine r_if_eq (pc := 132) (tgt := 154) dX12_find_132 rfl (fun c => ?_) (fun c => ?_)
  · have h := it h c
    refine r_iconst (pc := 154) dX12_find_154 kc_iconst_0 ?_
    refine r_iadd (pc := 155) dX12_find_155 ?_
    refine r_istore (pc := 156) (L' := [(4, vI (x4 + (0 : Int32))), (6, vI s0), (0, vR (some t)), (1, vI x1), (2, vI x2), (3, vI x3), (5, vI x5)]) dX12_find_156 (by decide) rfl ?_
    refine r_iinc (pc := 158) (v := (x5 + (3 : Int32))) (L' := [(5, vI (x5 + (3 : Int32))), (4, vI (x4 + (0 : Int32))), (6, vI s0), (0, vR (some t)), (1, vI x1), (2, vI x2), (3, vI x3)]) dX12_find_158 6 rfl (kc_inc_3 _) (by decide) rfl ?_
    refine r_goto (pc := 161) (tgt := 68) dX12_find_161 rfl ?_
    refine r_sub [3, 4, 5, 6, 1, 0] rfl ?_
    exact hq68 _ _ _ _ _ _ h
  · have h := ie h c
    refine r_aload_n (pc := 135) dX12_find_135 rfl 1 rfl ?_
    obtain ⟨a33, ha33, h⟩ := ob h
    refine r_getS (pc := 136) dX12_find_136 fgX12_180 rfl g28 ha33 ?_
    refine r_iload (pc := 139) dX12_find_139 6 rfl ?_
    obtain ⟨g34, h⟩ := gd h
    obtain ⟨g35, h⟩ := gd h
    refine r_zaload (pc := 141) dX12_find_141 g34 g35 ?_
    refine r_ifne (pc := 142) (tgt := 154) dX12_find_142 rfl (fun c => ?_) (fun c => ?_)
    · have h := ie h c
      refine r_iconst (pc := 154) dX12_find_154 kc_iconst_0 ?_
      refine r_iadd (pc := 155) dX12_find_155 ?_
      refine r_istore (pc := 156) (L' := [(4, vI (x4 + (0 : Int32))), (6, vI s0), (0, vR (some t)), (1, vI x1), (2, vI x2), (3, vI x3), (5, vI x5)]) dX12_find_156 (by decide) rfl ?_
      refine r_iinc (pc := 158) (v := (x5 + (3 : Int32))) (L' := [(5, vI (x5 + (3 : Int32))), (4, vI (x4 + (0 : Int32))), (6, vI s0), (0, vR (some t)), (1, vI x1), (2, vI x2), (3, vI x3)]) dX12_find_158 6 rfl (kc_inc_3 _) (by decide) rfl ?_
      refine r_goto (pc := 161) (tgt := 68) dX12_find_161 rfl ?_
      refine r_sub [3, 4, 5, 6, 1, 0] rfl ?_
      exact hq68 _ _ _ _ _ _ h
    · have h := it h c
      refine r_iload (pc := 145) dX12_find_145 0 rfl ?_
      refine r_if_eq (pc := 147) (tgt := 154) dX12_find_147 rfl (fun c => ?_) (fun c => ?_)
      · have h := it h c
        refine r_iconst (pc := 154) dX12_find_154 kc_iconst_0 ?_
        refine r_iadd (pc := 155) dX12_find_155 ?_
        refine r_istore (pc := 156) (L' := [(4, vI (x4 + (0 : Int32))), (6, vI s0), (0, vR (some t)), (1, vI x1), (2, vI x2), (3, vI x3), (5, vI x5)]) dX12_find_156 (by decide) rfl ?_
        refine r_iinc (pc := 158) (v := (x5 + (3 : Int32))) (L' := [(5, vI (x5 + (3 : Int32))), (4, vI (x4 + (0 : Int32))), (6, vI s0), (0, vR (some t)), (1, vI x1), (2, vI x2), (3, vI x3)]) dX12_find_158 6 rfl (kc_inc_3 _) (by decide) rfl ?_
        refine r_goto (pc := 161) (tgt := 68) dX12_find_161 rfl ?_
        refine r_sub [3, 4, 5, 6, 1, 0] rfl ?_
        exact hq68 _ _ _ _ _ _ h
      · have h := ie h c
        refine r_iconst (pc := 150) dX12_find_150 kc_iconst_1 ?_
        refine r_goto (pc := 151) (tgt := 155) dX12_find_151 rfl ?_
        refine r_iadd (pc := 155) dX12_find_155 ?_
        refine r_istore (pc := 156) (L' := [(4, vI (x4 + (1 : Int32))), (6, vI s0), (0, vR (some t)), (1, vI x1), (2, vI x2), (3, vI x3), (5, vI x5)]) dX12_find_156 (by decide) rfl ?_
        refine r_iinc (pc := 158) (v := (x5 + (3 : Int32))) (L' := [(5, vI (x5 + (3 : Int32))), (4, vI (x4 + (1 : Int32))), (6, vI s0), (0, vR (some t)), (1, vI x1), (2, vI x2), (3, vI x3)]) dX12_find_158 6 rfl (kc_inc_3 _) (by decide) rfl ?_
        refine r_goto (pc := 161) (tgt := 68) dX12_find_161 rfl ?_
        refine r_sub [3, 4, 5, 6, 1, 0] rfl ?_
        exact hq68 _ _ _ _ _ _ h
def fX12_find_l68 (q52 : (Nat → Nat → Int64) → (Int32) → (Int32) → (Int32) → (Option ((Nat → Nat → Int64)))) (σ : Shp) (I : Nat → Nat → Int32) (R : Nat → Nat → Option Nat) (t : Nat) : Nat → (Nat → Nat → Int64) → (Int32) → (Int32) → (Int32) → (Int32) → (Int32) → Option ((Nat → Nat → Int64))
  | 0, _, _, _, _, _, _ => none
  | n + 1, J, x1, x2, x3, x4, x5 =>
    if (9 : Int32) ≤ x5 then
      if kdx σ t = 13 then
      (fX12_reads σ J R t x3).bind fun r7 =>
      if r7 = 0 then
        let v9 := x3 + (3 : Int32)
        q52 J x1 x2 v9
      else
        ((R t 88) : Option Nat).bind fun a10 =>
        if kdx σ a10 = 24 then
        if ¬ (x3 < 0 ∨ lnx σ a10 ≤ Int32.toNatClampNeg x3) then
        if (I a10 (Int32.toNatClampNeg x3)) = 0 then
          if x4 = ((x2 - (1 : Int32)) / (2 : Int32)) then
            ((R t 95) : Option Nat).bind fun a15 =>
            ((R t 86) : Option Nat).bind fun a16 =>
            if kdx σ a16 = 21 then
            if ¬ (x3 < 0 ∨ lnx σ a16 ≤ Int32.toNatClampNeg x3) then
            if kdx σ a15 = 21 then
            if ¬ (x1 < 0 ∨ lnx σ a15 ≤ Int32.toNatClampNeg x1) then
            let J21 := u2 J a15 (Int32.toNatClampNeg x1) (J a16 (Int32.toNatClampNeg x3))
            let v22 := x3 + (3 : Int32)
            q52 J21 x1 x2 v22
            else none
            else none
            else none
            else none
          else
            let v14 := x3 + (3 : Int32)
            q52 J x1 x2 v14
        else
          let v13 := x3 + (3 : Int32)
          q52 J x1 x2 v13
        else none
        else none
      else none
    else
      if kdx σ t = 13 then
      ((R t 86) : Option Nat).bind fun a24 =>
      if kdx σ a24 = 21 then
      if ¬ (x5 < 0 ∨ lnx σ a24 ≤ Int32.toNatClampNeg x5) then
      if ¬ (x3 < 0 ∨ lnx σ a24 ≤ Int32.toNatClampNeg x3) then
      if (fX12_isBelow (J a24 (Int32.toNatClampNeg x5)) (J a24 (Int32.toNatClampNeg x3))) = 0 then
        if (J a24 (Int32.toNatClampNeg x5)) = (J a24 (Int32.toNatClampNeg x3)) then
          if x3 ≤ x5 then
            fX12_find_b122 q52 (fX12_find_l68 q52 σ I R t n) σ I R t J x1 x2 x3 x4 x5 (0 : Int32)
          else
            fX12_find_b122 q52 (fX12_find_l68 q52 σ I R t n) σ I R t J x1 x2 x3 x4 x5 (1 : Int32)
        else
          fX12_find_b122 q52 (fX12_find_l68 q52 σ I R t n) σ I R t J x1 x2 x3 x4 x5 (0 : Int32)
      else
        fX12_find_b122 q52 (fX12_find_l68 q52 σ I R t n) σ I R t J x1 x2 x3 x4 x5 (1 : Int32)
      else none
      else none
      else none
      else none
theorem wX12_find_l68 {G : Gx} {l : Launch} {σ : Shp} {I : Nat → Nat → Int32} {D : Nat → Nat → UInt64} {R : Nat → Nat → Option Nat} {t : Nat} {J9 : Nat → Nat → Int64} {q52 : (Nat → Nat → Int64) → (Int32) → (Int32) → (Int32) → (Option ((Nat → Nat → Int64)))} (hq52 : ∀ (J : Nat → Nat → Int64) (x1 : Int32) (x2 : Int32) (x3 : Int32), q52 J x1 x2 x3 = some J9 → WX12_find G l σ (σ, I, J9, D, R) none (σ, I, J, D, R) 52 [(0, vR (some t)), (1, vI x1), (2, vI x2), (3, vI x3)] []) : ∀ (n : Nat) (J : Nat → Nat → Int64) (x1 : Int32) (x2 : Int32) (x3 : Int32) (x4 : Int32) (x5 : Int32), fX12_find_l68 q52 σ I R t n J x1 x2 x3 x4 x5 = some J9 → WX12_find G l σ (σ, I, J9, D, R) none (σ, I, J, D, R) 68 [(0, vR (some t)), (1, vI x1), (2, vI x2), (3, vI x3), (4, vI x4), (5, vI x5)] [] := by
  intro n
  induction n with
  | zero =>
    intro J x1 x2 x3 x4 x5 h
    have h : none = some _ := h
    cases h
  | succ n ih =>
    intro J x1 x2 x3 x4 x5 h
    rw [fX12_find_l68] at h
    refine r_iload (pc := 68) dX12_find_68 5 rfl ?_
    refine r_bipush (pc := 70) dX12_find_70 kc_bipush_9 ?_
    refine r_icmp_ge (pc := 72) (tgt := 164) dX12_find_72 rfl (fun c => ?_) (fun c => ?_)
    · have h := it h c
      refine r_aload_n (pc := 164) dX12_find_164 rfl 0 rfl ?_
      refine r_iload_n (pc := 165) dX12_find_165 rfl 3 rfl ?_
      obtain ⟨g6, h⟩ := gd h
      obtain ⟨r7, hc8, h⟩ := ob h
      refine r_callV1 (pc := 166) (av := [vI x3]) (S := []) dX12_find_166 (kX12_reads hc8) g6 rfl mkX12_636 mwX12_reads rfl ⟨Nat.le_of_ble_eq_true rfl, Nat.le_of_ble_eq_true rfl⟩ (Nat.le_of_ble_eq_true rfl) ⟨Nat.le_refl _, Nat.le_refl _⟩ (fun b => b) ?_
      refine r_if_eq (pc := 169) (tgt := 203) dX12_find_169 rfl (fun c => ?_) (fun c => ?_)
      · have h := it h c
        refine r_iinc (pc := 203) (v := (x3 + (3 : Int32))) (L' := [(3, vI (x3 + (3 : Int32))), (0, vR (some t)), (1, vI x1), (2, vI x2), (4, vI x4), (5, vI x5)]) dX12_find_203 3 rfl (kc_inc_3 _) (by decide) rfl ?_
        refine r_goto (pc := 206) (tgt := 52) dX12_find_206 rfl ?_
        refine r_sub [1, 2, 3, 0] rfl ?_
        exact hq52 _ _ _ _ h
      · have h := ie h c
        refine r_aload_n (pc := 172) dX12_find_172 rfl 0 rfl ?_
        obtain ⟨a10, ha10, h⟩ := ob h
        refine r_getS (pc := 173) dX12_find_173 fgX12_180 rfl g6 ha10 ?_
        refine r_iload_n (pc := 176) dX12_find_176 rfl 3 rfl ?_
        obtain ⟨g11, h⟩ := gd h
        obtain ⟨g12, h⟩ := gd h
        refine r_zaload (pc := 177) dX12_find_177 g11 g12 ?_
        refine r_ifne (pc := 178) (tgt := 203) dX12_find_178 rfl (fun c => ?_) (fun c => ?_)
        · have h := ie h c
          refine r_iinc (pc := 203) (v := (x3 + (3 : Int32))) (L' := [(3, vI (x3 + (3 : Int32))), (0, vR (some t)), (1, vI x1), (2, vI x2), (4, vI x4), (5, vI x5)]) dX12_find_203 3 rfl (kc_inc_3 _) (by decide) rfl ?_
          refine r_goto (pc := 206) (tgt := 52) dX12_find_206 rfl ?_
          refine r_sub [1, 2, 3, 0] rfl ?_
          exact hq52 _ _ _ _ h
        · have h := it h c
          refine r_iload (pc := 181) dX12_find_181 4 rfl ?_
          refine r_iload_n (pc := 183) dX12_find_183 rfl 2 rfl ?_
          refine r_iconst (pc := 184) dX12_find_184 kc_iconst_1 ?_
          refine r_isub (pc := 185) dX12_find_185 ?_
          refine r_iconst (pc := 186) dX12_find_186 kc_iconst_2 ?_
          refine r_idiv (pc := 187) dX12_find_187 (by decide) ?_
          refine r_icmp_ne (pc := 188) (tgt := 203) dX12_find_188 rfl (fun c => ?_) (fun c => ?_)
          · have h := ie h c
            refine r_iinc (pc := 203) (v := (x3 + (3 : Int32))) (L' := [(3, vI (x3 + (3 : Int32))), (0, vR (some t)), (1, vI x1), (2, vI x2), (4, vI x4), (5, vI x5)]) dX12_find_203 3 rfl (kc_inc_3 _) (by decide) rfl ?_
            refine r_goto (pc := 206) (tgt := 52) dX12_find_206 rfl ?_
            refine r_sub [1, 2, 3, 0] rfl ?_
            exact hq52 _ _ _ _ h
          · have h := it h c
            refine r_aload_n (pc := 191) dX12_find_191 rfl 0 rfl ?_
            obtain ⟨a15, ha15, h⟩ := ob h
            refine r_getS (pc := 192) dX12_find_192 fgX12_204 rfl g6 ha15 ?_
            refine r_iload_n (pc := 195) dX12_find_195 rfl 1 rfl ?_
            refine r_aload_n (pc := 196) dX12_find_196 rfl 0 rfl ?_
            obtain ⟨a16, ha16, h⟩ := ob h
            refine r_getS (pc := 197) dX12_find_197 fgX12_174 rfl g6 ha16 ?_
            refine r_iload_n (pc := 200) dX12_find_200 rfl 3 rfl ?_
            obtain ⟨g17, h⟩ := gd h
            obtain ⟨g18, h⟩ := gd h
            refine r_laload (pc := 201) dX12_find_201 g17 g18 ?_
            obtain ⟨g19, h⟩ := gd h
            obtain ⟨g20, h⟩ := gd h
            refine r_lastore (pc := 202) dX12_find_202 g19 g20 ?_
            refine r_iinc (pc := 203) (v := (x3 + (3 : Int32))) (L' := [(3, vI (x3 + (3 : Int32))), (0, vR (some t)), (1, vI x1), (2, vI x2), (4, vI x4), (5, vI x5)]) dX12_find_203 3 rfl (kc_inc_3 _) (by decide) rfl ?_
            refine r_goto (pc := 206) (tgt := 52) dX12_find_206 rfl ?_
            refine r_sub [1, 2, 3, 0] rfl ?_
            exact hq52 _ _ _ _ h
    · have h := ie h c
      refine r_aload_n (pc := 75) dX12_find_75 rfl 0 rfl ?_
      obtain ⟨g23, h⟩ := gd h
      obtain ⟨a24, ha24, h⟩ := ob h
      refine r_getS (pc := 76) dX12_find_76 fgX12_174 rfl g23 ha24 ?_
      refine r_iload (pc := 79) dX12_find_79 5 rfl ?_
      obtain ⟨g25, h⟩ := gd h
      obtain ⟨g26, h⟩ := gd h
      refine r_laload (pc := 81) dX12_find_81 g25 g26 ?_
      refine r_aload_n (pc := 82) dX12_find_82 rfl 0 rfl ?_
      refine r_getS (pc := 83) dX12_find_83 fgX12_174 rfl g23 ha24 ?_
      refine r_iload_n (pc := 86) dX12_find_86 rfl 3 rfl ?_
      obtain ⟨g27, h⟩ := gd h
      refine r_laload (pc := 87) dX12_find_87 g25 g27 ?_
      refine r_callS1 (pc := 88) (av := [vL (J a24 (Int32.toNatClampNeg x5)), vL (J a24 (Int32.toNatClampNeg x3))]) (S := []) dX12_find_88 (kX12_isBelow rfl) mkX12_639 mwX12_isBelow rfl ⟨Nat.le_of_ble_eq_true rfl, Nat.le_of_ble_eq_true rfl⟩ (Nat.le_of_ble_eq_true rfl) ⟨Nat.le_refl _, Nat.le_refl _⟩ (fun b => b) ?_
      refine r_ifne (pc := 91) (tgt := 117) dX12_find_91 rfl (fun c => ?_) (fun c => ?_)
      · have h := ie h c
        refine r_iconst (pc := 117) dX12_find_117 kc_iconst_1 ?_
        refine r_goto (pc := 118) (tgt := 122) dX12_find_118 rfl ?_
        refine r_sub [0, 1, 2, 3, 4, 5] rfl ?_
        exact wX12_find_b122 hq52 ih h
      · have h := it h c
        refine r_aload_n (pc := 94) dX12_find_94 rfl 0 rfl ?_
        refine r_getS (pc := 95) dX12_find_95 fgX12_174 rfl g23 ha24 ?_
        refine r_iload (pc := 98) dX12_find_98 5 rfl ?_
        refine r_laload (pc := 100) dX12_find_100 g25 g26 ?_
        refine r_aload_n (pc := 101) dX12_find_101 rfl 0 rfl ?_
        refine r_getS (pc := 102) dX12_find_102 fgX12_174 rfl g23 ha24 ?_
        refine r_iload_n (pc := 105) dX12_find_105 rfl 3 rfl ?_
        refine r_laload (pc := 106) dX12_find_106 g25 g27 ?_
        refine r_lcmp (pc := 107) dX12_find_107 ?_
        refine r_ifne (pc := 108) (tgt := 121) dX12_find_108 rfl (fun c => ?_) (fun c => ?_)
        · have h := ie h (fun q => c (lgc_eq.mpr q))
          refine r_iconst (pc := 121) dX12_find_121 kc_iconst_0 ?_
          refine r_sub [0, 1, 2, 3, 4, 5] rfl ?_
          exact wX12_find_b122 hq52 ih h
        · have h := it h (lgc_eq.mp c)
          refine r_iload (pc := 111) dX12_find_111 5 rfl ?_
          refine r_iload_n (pc := 113) dX12_find_113 rfl 3 rfl ?_
          refine r_icmp_ge (pc := 114) (tgt := 121) dX12_find_114 rfl (fun c => ?_) (fun c => ?_)
          · have h := it h c
            refine r_iconst (pc := 121) dX12_find_121 kc_iconst_0 ?_
            refine r_sub [0, 1, 2, 3, 4, 5] rfl ?_
            exact wX12_find_b122 hq52 ih h
          · have h := ie h c
            refine r_iconst (pc := 117) dX12_find_117 kc_iconst_1 ?_
            refine r_goto (pc := 118) (tgt := 122) dX12_find_118 rfl ?_
            refine r_sub [0, 1, 2, 3, 4, 5] rfl ?_
            exact wX12_find_b122 hq52 ih h
def fX12_find_l52  (σ : Shp) (I : Nat → Nat → Int32) (R : Nat → Nat → Option Nat) (t : Nat) : Nat → (Nat → Nat → Int64) → (Int32) → (Int32) → (Int32) → Option ((Nat → Nat → Int64))
  | 0, _, _, _, _ => none
  | n + 1, J, x1, x2, x3 =>
    if (9 : Int32) ≤ x3 then
      some J
    else
      if x2 ≤ 0 then
        some J
      else
        fX12_find_l68 (fX12_find_l52 σ I R t n) σ I R t FUx J x1 x2 x3 (0 : Int32) x1
theorem wX12_find_l52 {G : Gx} {l : Launch} {σ : Shp} {I : Nat → Nat → Int32} {D : Nat → Nat → UInt64} {R : Nat → Nat → Option Nat} {t : Nat} {J9 : Nat → Nat → Int64} : ∀ (n : Nat) (J : Nat → Nat → Int64) (x1 : Int32) (x2 : Int32) (x3 : Int32), fX12_find_l52 σ I R t n J x1 x2 x3 = some J9 → WX12_find G l σ (σ, I, J9, D, R) none (σ, I, J, D, R) 52 [(0, vR (some t)), (1, vI x1), (2, vI x2), (3, vI x3)] [] := by
  intro n
  induction n with
  | zero =>
    intro J x1 x2 x3 h
    have h : none = some _ := h
    cases h
  | succ n ih =>
    intro J x1 x2 x3 h
    rw [fX12_find_l52] at h
    refine r_iload_n (pc := 52) dX12_find_52 rfl 3 rfl ?_
    refine r_bipush (pc := 53) dX12_find_53 kc_bipush_9 ?_
    refine r_icmp_ge (pc := 55) (tgt := 209) dX12_find_55 rfl (fun c => ?_) (fun c => ?_)
    · have h := it h c
      cases h
      exact r_vret dX12_find_209
    · have h := ie h c
      refine r_iload_n (pc := 58) dX12_find_58 rfl 2 rfl ?_
      refine r_if_le (pc := 59) (tgt := 209) dX12_find_59 rfl (fun c => ?_) (fun c => ?_)
      · have h := it h c
        cases h
        exact r_vret dX12_find_209
      · have h := ie h c
        refine r_iconst (pc := 62) dX12_find_62 kc_iconst_0 ?_
        refine r_istore (pc := 63) (L' := [(4, vI (0 : Int32)), (0, vR (some t)), (1, vI x1), (2, vI x2), (3, vI x3)]) dX12_find_63 (by decide) rfl ?_
        refine r_iload_n (pc := 65) dX12_find_65 rfl 2 rfl ?_
        refine r_istore (pc := 66) (L' := [(5, vI x1), (4, vI (0 : Int32)), (0, vR (some t)), (1, vI x1), (2, vI x2), (3, vI x3)]) dX12_find_66 (by decide) rfl ?_
        refine r_sub [2, 3, 4, 5, 1, 0] rfl ?_
        exact wX12_find_l68 ih _ _ _ _ _ _ _ h
def fX12_find_l4  (σ : Shp) (I : Nat → Nat → Int32) (R : Nat → Nat → Option Nat) (t : Nat) : Nat → (Nat → Nat → Int64) → (Int32) → (Int32) → (Int32) → Option ((Nat → Nat → Int64))
  | 0, _, _, _, _ => none
  | n + 1, J, x1, x2, x3 =>
    if (9 : Int32) ≤ x3 then
      if kdx σ t = 13 then
      ((R t 95) : Option Nat).bind fun a2 =>
      if kdx σ a2 = 21 then
      if ¬ (x1 < 0 ∨ lnx σ a2 ≤ Int32.toNatClampNeg x1) then
      let J5 := u2 J a2 (Int32.toNatClampNeg x1) (9221120237041090560 : Int64)
      fX12_find_l52 σ I R t FUx J5 x1 x2 x1
      else none
      else none
      else none
    else
      if kdx σ t = 13 then
      (fX12_reads σ J R t x3).bind fun r43 =>
      if r43 = 0 then
        let v45 := (x2 + (0 : Int32))
        let v46 := x3 + (3 : Int32)
        fX12_find_l4 σ I R t n J x1 v45 v46
      else
        ((R t 88) : Option Nat).bind fun a47 =>
        if kdx σ a47 = 24 then
        if ¬ (x3 < 0 ∨ lnx σ a47 ≤ Int32.toNatClampNeg x3) then
        if (I a47 (Int32.toNatClampNeg x3)) = 0 then
          let v52 := (x2 + (1 : Int32))
          let v53 := x3 + (3 : Int32)
          fX12_find_l4 σ I R t n J x1 v52 v53
        else
          let v50 := (x2 + (0 : Int32))
          let v51 := x3 + (3 : Int32)
          fX12_find_l4 σ I R t n J x1 v50 v51
        else none
        else none
      else none
theorem wX12_find_l4 {G : Gx} {l : Launch} {σ : Shp} {I : Nat → Nat → Int32} {D : Nat → Nat → UInt64} {R : Nat → Nat → Option Nat} {t : Nat} {J9 : Nat → Nat → Int64} : ∀ (n : Nat) (J : Nat → Nat → Int64) (x1 : Int32) (x2 : Int32) (x3 : Int32), fX12_find_l4 σ I R t n J x1 x2 x3 = some J9 → WX12_find G l σ (σ, I, J9, D, R) none (σ, I, J, D, R) 4 [(0, vR (some t)), (1, vI x1), (2, vI x2), (3, vI x3)] [] := by
  intro n
  induction n with
  | zero =>
    intro J x1 x2 x3 h
    have h : none = some _ := h
    cases h
  | succ n ih =>
    intro J x1 x2 x3 h
    rw [fX12_find_l4] at h
    refine r_iload_n (pc := 4) dX12_find_4 rfl 3 rfl ?_
    refine r_bipush (pc := 5) dX12_find_5 kc_bipush_9 ?_
    refine r_icmp_ge (pc := 7) (tgt := 41) dX12_find_7 rfl (fun c => ?_) (fun c => ?_)
    · have h := it h c
      refine r_aload_n (pc := 41) dX12_find_41 rfl 0 rfl ?_
      obtain ⟨g1, h⟩ := gd h
      obtain ⟨a2, ha2, h⟩ := ob h
      refine r_getS (pc := 42) dX12_find_42 fgX12_204 rfl g1 ha2 ?_
      refine r_iload_n (pc := 45) dX12_find_45 rfl 1 rfl ?_
      refine r_ldc2 (pc := 46) dX12_find_46 clX12_172 ?_
      obtain ⟨g3, h⟩ := gd h
      obtain ⟨g4, h⟩ := gd h
      refine r_lastore (pc := 49) dX12_find_49 g3 g4 ?_
      refine r_iload_n (pc := 50) dX12_find_50 rfl 1 rfl ?_
      refine r_istore_n (pc := 51) (L' := [(3, vI x1), (0, vR (some t)), (1, vI x1), (2, vI x2)]) dX12_find_51 rfl (by decide) rfl ?_
      refine r_sub [1, 2, 3, 0] rfl ?_
      exact wX12_find_l52 _ _ _ _ _ h
    · have h := ie h c
      refine r_iload_n (pc := 10) dX12_find_10 rfl 2 rfl ?_
      refine r_aload_n (pc := 11) dX12_find_11 rfl 0 rfl ?_
      refine r_iload_n (pc := 12) dX12_find_12 rfl 3 rfl ?_
      obtain ⟨g42, h⟩ := gd h
      obtain ⟨r43, hc44, h⟩ := ob h
      refine r_callV1 (pc := 13) (av := [vI x3]) (S := [vI x2]) dX12_find_13 (kX12_reads hc44) g42 rfl mkX12_636 mwX12_reads rfl ⟨Nat.le_of_ble_eq_true rfl, Nat.le_of_ble_eq_true rfl⟩ (Nat.le_of_ble_eq_true rfl) ⟨Nat.le_refl _, Nat.le_refl _⟩ (fun b => b) ?_
      refine r_if_eq (pc := 16) (tgt := 32) dX12_find_16 rfl (fun c => ?_) (fun c => ?_)
      · have h := it h c
        refine r_iconst (pc := 32) dX12_find_32 kc_iconst_0 ?_
        refine r_iadd (pc := 33) dX12_find_33 ?_
        refine r_istore_n (pc := 34) (L' := [(2, vI (x2 + (0 : Int32))), (0, vR (some t)), (1, vI x1), (3, vI x3)]) dX12_find_34 rfl (by decide) rfl ?_
        refine r_iinc (pc := 35) (v := (x3 + (3 : Int32))) (L' := [(3, vI (x3 + (3 : Int32))), (2, vI (x2 + (0 : Int32))), (0, vR (some t)), (1, vI x1)]) dX12_find_35 3 rfl (kc_inc_3 _) (by decide) rfl ?_
        refine r_goto (pc := 38) (tgt := 4) dX12_find_38 rfl ?_
        refine r_sub [2, 3, 1, 0] rfl ?_
        exact ih _ _ _ _ h
      · have h := ie h c
        refine r_aload_n (pc := 19) dX12_find_19 rfl 0 rfl ?_
        obtain ⟨a47, ha47, h⟩ := ob h
        refine r_getS (pc := 20) dX12_find_20 fgX12_180 rfl g42 ha47 ?_
        refine r_iload_n (pc := 23) dX12_find_23 rfl 3 rfl ?_
        obtain ⟨g48, h⟩ := gd h
        obtain ⟨g49, h⟩ := gd h
        refine r_zaload (pc := 24) dX12_find_24 g48 g49 ?_
        refine r_ifne (pc := 25) (tgt := 32) dX12_find_25 rfl (fun c => ?_) (fun c => ?_)
        · have h := ie h c
          refine r_iconst (pc := 32) dX12_find_32 kc_iconst_0 ?_
          refine r_iadd (pc := 33) dX12_find_33 ?_
          refine r_istore_n (pc := 34) (L' := [(2, vI (x2 + (0 : Int32))), (0, vR (some t)), (1, vI x1), (3, vI x3)]) dX12_find_34 rfl (by decide) rfl ?_
          refine r_iinc (pc := 35) (v := (x3 + (3 : Int32))) (L' := [(3, vI (x3 + (3 : Int32))), (2, vI (x2 + (0 : Int32))), (0, vR (some t)), (1, vI x1)]) dX12_find_35 3 rfl (kc_inc_3 _) (by decide) rfl ?_
          refine r_goto (pc := 38) (tgt := 4) dX12_find_38 rfl ?_
          refine r_sub [2, 3, 1, 0] rfl ?_
          exact ih _ _ _ _ h
        · have h := it h c
          refine r_iconst (pc := 28) dX12_find_28 kc_iconst_1 ?_
          refine r_goto (pc := 29) (tgt := 33) dX12_find_29 rfl ?_
          refine r_iadd (pc := 33) dX12_find_33 ?_
          refine r_istore_n (pc := 34) (L' := [(2, vI (x2 + (1 : Int32))), (0, vR (some t)), (1, vI x1), (3, vI x3)]) dX12_find_34 rfl (by decide) rfl ?_
          refine r_iinc (pc := 35) (v := (x3 + (3 : Int32))) (L' := [(3, vI (x3 + (3 : Int32))), (2, vI (x2 + (1 : Int32))), (0, vR (some t)), (1, vI x1)]) dX12_find_35 3 rfl (kc_inc_3 _) (by decide) rfl ?_
          refine r_goto (pc := 38) (tgt := 4) dX12_find_38 rfl ?_
          refine r_sub [2, 3, 1, 0] rfl ?_
          exact ih _ _ _ _ h
def fX12_find (σ : Shp) (I : Nat → Nat → Int32) (J : Nat → Nat → Int64) (R : Nat → Nat → Option Nat) (t : Nat) (x1 : Int32) : Option ((Nat → Nat → Int64)) :=
  fX12_find_l4 σ I R t FUx J x1 (0 : Int32) x1
theorem kX12_find {G : Gx} {l : Launch} {σ : Shp} {I : Nat → Nat → Int32} {J : Nat → Nat → Int64} {D : Nat → Nat → UInt64} {R : Nat → Nat → Option Nat} {t : Nat} {x1 : Int32} {J9 : Nat → Nat → Int64} (h : fX12_find σ I J R t x1 = some J9) : Con G l yX12_find cX12_find 7 none 1 27 [vR (some t), vI x1] (σ, I, J, D, R) (σ, I, J9, D, R) none := by
  unfold fX12_find at h
  refine Con.mk (by decide +kernel) rfl (Nat.le_of_ble_eq_true rfl) ?_
  show WX12_find G l σ (σ, I, J9, D, R) none (σ, I, J, D, R) 0 _ []
  refine r_iconst (pc := 0) dX12_find_0 kc_iconst_0 ?_
  refine r_istore_n (pc := 1) (L' := [(2, vI (0 : Int32)), (0, vR (some t)), (1, vI x1)]) dX12_find_1 rfl (by decide) rfl ?_
  refine r_iload_n (pc := 2) dX12_find_2 rfl 2 rfl ?_
  refine r_istore_n (pc := 3) (L' := [(3, vI x1), (2, vI (0 : Int32)), (0, vR (some t)), (1, vI x1)]) dX12_find_3 rfl (by decide) rfl ?_
  refine r_sub [2, 3, 1, 0] rfl ?_
  exact wX12_find_l4 _ _ _ _ _ h
abbrev WX12_isOff (G : Gx) (l : Launch) (σ0 : Shp) (X1 : Stt) (rv : Option SV) : Stt → Nat → List (Nat × SV) → List SV → Prop := Wm G l yX12_isOff cX12_isOff 9 (some .boolean) (fun _ => True) (rmx 3 75 σ0 X1.1) σ0 (Qmx G σ0 X1 rv)
def fX12_isOff (σ : Shp) (J : Nat → Nat → Int64) (D : Nat → Nat → UInt64) (R : Nat → Nat → Option Nat) (t : Nat) (x1 : Int32) (x2 : Int32) : Option ((Int32)) :=
  if kdx σ t = 13 then
  ((R t 86) : Option Nat).bind fun a2 =>
  if kdx σ a2 = 21 then
  if ¬ (x1 < 0 ∨ lnx σ a2 ≤ Int32.toNatClampNeg x1) then
  (fX12_fromBits (J a2 (Int32.toNatClampNeg x1))).bind fun r5 =>
  ((R t 95) : Option Nat).bind fun a7 =>
  if kdx σ a7 = 21 then
  if ¬ (x2 < 0 ∨ lnx σ a7 ≤ Int32.toNatClampNeg x2) then
  (fX12_fromBits (J a7 (Int32.toNatClampNeg x2))).bind fun r10 =>
  if (J a2 (Int32.toNatClampNeg x1)) = (J a7 (Int32.toNatClampNeg x2)) then
    some (0 : Int32)
  else
    if (Op.cmpValue (FP.dcmp r5 r10) .l) ≤ 0 then
      if (FP.dsub r10 r5) &&& 0x7fffffffffffffff ≤ 0x7ff0000000000000 then
      let v13 := (FP.dsub r10 r5)
      if (Op.cmpValue (FP.dcmp v13 (D t 94)) .l) ≤ 0 then
        some (0 : Int32)
      else
        some (1 : Int32)
      else none
    else
      if (FP.dsub r5 r10) &&& 0x7fffffffffffffff ≤ 0x7ff0000000000000 then
      let v15 := (FP.dsub r5 r10)
      if (Op.cmpValue (FP.dcmp v15 (D t 94)) .l) ≤ 0 then
        some (0 : Int32)
      else
        some (1 : Int32)
      else none
  else none
  else none
  else none
  else none
  else none
theorem kX12_isOff {G : Gx} {l : Launch} {σ : Shp} {I : Nat → Nat → Int32} {J : Nat → Nat → Int64} {D : Nat → Nat → UInt64} {R : Nat → Nat → Option Nat} {t : Nat} {x1 : Int32} {x2 : Int32} {r9 : Int32} (h : fX12_isOff σ J D R t x1 x2 = some r9) : Con G l yX12_isOff cX12_isOff 9 (some .boolean) 3 75 [vR (some t), vI x1, vI x2] (σ, I, J, D, R) (σ, I, J, D, R) (some (vI r9)) := by
  unfold fX12_isOff at h
  refine Con.mk (by decide +kernel) rfl (Nat.le_of_ble_eq_true rfl) ?_
  show WX12_isOff G l σ (σ, I, J, D, R) (some (vI r9)) (σ, I, J, D, R) 0 _ []
  refine r_aload_n (pc := 0) dX12_isOff_0 rfl 0 rfl ?_
  obtain ⟨g1, h⟩ := gd h
  obtain ⟨a2, ha2, h⟩ := ob h
  refine r_getS (pc := 1) dX12_isOff_1 fgX12_174 rfl g1 ha2 ?_
  refine r_iload_n (pc := 4) dX12_isOff_4 rfl 1 rfl ?_
  obtain ⟨g3, h⟩ := gd h
  obtain ⟨g4, h⟩ := gd h
  refine r_laload (pc := 5) dX12_isOff_5 g3 g4 ?_
  obtain ⟨r5, hc6, h⟩ := ob h
  refine r_callS1 (pc := 6) (av := [vL (J a2 (Int32.toNatClampNeg x1))]) (S := []) dX12_isOff_6 (kX12_fromBits hc6) mkX12_630 mwX12_fromBits rfl ⟨Nat.le_of_ble_eq_true rfl, Nat.le_of_ble_eq_true rfl⟩ (Nat.le_of_ble_eq_true rfl) ⟨Nat.le_refl _, Nat.le_refl _⟩ (fun b => b) ?_
  refine r_dstore_n (pc := 9) (L' := [(3, vD r5), (0, vR (some t)), (1, vI x1), (2, vI x2)]) dX12_isOff_9 rfl (by decide) rfl ?_
  refine r_aload_n (pc := 10) dX12_isOff_10 rfl 1 rfl ?_
  obtain ⟨a7, ha7, h⟩ := ob h
  refine r_getS (pc := 11) dX12_isOff_11 fgX12_204 rfl g1 ha7 ?_
  refine r_iload_n (pc := 14) dX12_isOff_14 rfl 3 rfl ?_
  obtain ⟨g8, h⟩ := gd h
  obtain ⟨g9, h⟩ := gd h
  refine r_laload (pc := 15) dX12_isOff_15 g8 g9 ?_
  obtain ⟨r10, hc11, h⟩ := ob h
  refine r_callS1 (pc := 16) (av := [vL (J a7 (Int32.toNatClampNeg x2))]) (S := []) dX12_isOff_16 (kX12_fromBits hc11) mkX12_630 mwX12_fromBits rfl ⟨Nat.le_of_ble_eq_true rfl, Nat.le_of_ble_eq_true rfl⟩ (Nat.le_of_ble_eq_true rfl) ⟨Nat.le_refl _, Nat.le_refl _⟩ (fun b => b) ?_
  refine r_dstore (pc := 19) (L' := [(5, vD r10), (3, vD r5), (0, vR (some t)), (1, vI x1), (2, vI x2)]) dX12_isOff_19 (by decide) rfl ?_
  refine r_aload_n (pc := 21) dX12_isOff_21 rfl 2 rfl ?_
  refine r_getS (pc := 22) dX12_isOff_22 fgX12_174 rfl g1 ha2 ?_
  refine r_iload_n (pc := 25) dX12_isOff_25 rfl 3 rfl ?_
  refine r_laload (pc := 26) dX12_isOff_26 g3 g4 ?_
  refine r_aload_n (pc := 27) dX12_isOff_27 rfl 2 rfl ?_
  refine r_getS (pc := 28) dX12_isOff_28 fgX12_204 rfl g1 ha7 ?_
  refine r_iload_n (pc := 31) dX12_isOff_31 rfl 4 rfl ?_
  refine r_laload (pc := 32) dX12_isOff_32 g8 g9 ?_
  refine r_lcmp (pc := 33) dX12_isOff_33 ?_
  refine r_ifne (pc := 34) (tgt := 39) dX12_isOff_34 rfl (fun c => ?_) (fun c => ?_)
  · have h := ie h (fun q => c (lgc_eq.mpr q))
    refine r_dload_n (pc := 39) dX12_isOff_39 rfl 1 rfl ?_
    refine r_dload (pc := 40) dX12_isOff_40 0 rfl ?_
    refine r_dcmp (pc := 42) dX12_isOff_42 ?_
    refine r_if_le (pc := 43) (tgt := 53) dX12_isOff_43 rfl (fun c => ?_) (fun c => ?_)
    · have h := it h c
      refine r_dload (pc := 53) dX12_isOff_53 0 rfl ?_
      refine r_dload_n (pc := 55) dX12_isOff_55 rfl 1 rfl ?_
      obtain ⟨g12, h⟩ := gd h
      refine r_dsub (pc := 56) dX12_isOff_56 g12 ?_
      refine r_dstore (pc := 57) (L' := [(7, vD (FP.dsub r10 r5)), (5, vD r10), (3, vD r5), (0, vR (some t)), (1, vI x1), (2, vI x2)]) dX12_isOff_57 (by decide) rfl ?_
      refine r_dload (pc := 59) dX12_isOff_59 0 rfl ?_
      refine r_aload_n (pc := 61) dX12_isOff_61 rfl 3 rfl ?_
      refine r_getD (pc := 62) dX12_isOff_62 fgX12_200 rfl g1 ?_
      refine r_dcmp (pc := 65) dX12_isOff_65 ?_
      refine r_if_le (pc := 66) (tgt := 73) dX12_isOff_66 rfl (fun c => ?_) (fun c => ?_)
      · have h := it h c
        refine r_iconst (pc := 73) dX12_isOff_73 kc_iconst_0 ?_
        cases h
        exact r_zret dX12_isOff_74 (Or.inl rfl)
      · have h := ie h c
        refine r_iconst (pc := 69) dX12_isOff_69 kc_iconst_1 ?_
        refine r_goto (pc := 70) (tgt := 74) dX12_isOff_70 rfl ?_
        cases h
        exact r_zret dX12_isOff_74 (Or.inr rfl)
    · have h := ie h c
      refine r_dload_n (pc := 46) dX12_isOff_46 rfl 1 rfl ?_
      refine r_dload (pc := 47) dX12_isOff_47 0 rfl ?_
      obtain ⟨g14, h⟩ := gd h
      refine r_dsub (pc := 49) dX12_isOff_49 g14 ?_
      refine r_goto (pc := 50) (tgt := 57) dX12_isOff_50 rfl ?_
      refine r_dstore (pc := 57) (L' := [(7, vD (FP.dsub r5 r10)), (5, vD r10), (3, vD r5), (0, vR (some t)), (1, vI x1), (2, vI x2)]) dX12_isOff_57 (by decide) rfl ?_
      refine r_dload (pc := 59) dX12_isOff_59 0 rfl ?_
      refine r_aload_n (pc := 61) dX12_isOff_61 rfl 3 rfl ?_
      refine r_getD (pc := 62) dX12_isOff_62 fgX12_200 rfl g1 ?_
      refine r_dcmp (pc := 65) dX12_isOff_65 ?_
      refine r_if_le (pc := 66) (tgt := 73) dX12_isOff_66 rfl (fun c => ?_) (fun c => ?_)
      · have h := it h c
        refine r_iconst (pc := 73) dX12_isOff_73 kc_iconst_0 ?_
        cases h
        exact r_zret dX12_isOff_74 (Or.inl rfl)
      · have h := ie h c
        refine r_iconst (pc := 69) dX12_isOff_69 kc_iconst_1 ?_
        refine r_goto (pc := 70) (tgt := 74) dX12_isOff_70 rfl ?_
        cases h
        exact r_zret dX12_isOff_74 (Or.inr rfl)
  · have h := it h (lgc_eq.mp c)
    refine r_iconst (pc := 37) dX12_isOff_37 kc_iconst_0 ?_
    cases h
    exact r_zret dX12_isOff_38 (Or.inl rfl)
abbrev WX12_countIn (G : Gx) (l : Launch) (σ0 : Shp) (X1 : Stt) (rv : Option SV) : Stt → Nat → List (Nat × SV) → List SV → Prop := Wm G l yX12_countIn cX12_countIn 6 none (fun _ => True) (rmx 4 103 σ0 X1.1) σ0 (Qmx G σ0 X1 rv)
def fX12_countIn_b186 (q104 : (Nat → Nat → Int32) → (Int32) → (Int32) → (Int32) → (Option ((Nat → Nat → Int32)))) (σ : Shp) (J : Nat → Nat → Int64) (D : Nat → Nat → UInt64) (R : Nat → Nat → Option Nat) (t : Nat) (I : Nat → Nat → Int32) (x1 : Int32) (x2 : Int32) (x3 : Int32) (x4 : Int32) (x5 : Int32) (s0 : Option Nat) (s1 : Int32) (s2 : Int32) : Option ((Nat → Nat → Int32)) :=
  (s0 : Option Nat).bind fun a6 =>
  if kdx σ a6 = 20 then
  if ¬ (s1 < 0 ∨ lnx σ a6 ≤ Int32.toNatClampNeg s1) then
  let I9 := u2 I a6 (Int32.toNatClampNeg s1) s2
  if kdx σ t = 13 then
  ((R t 91) : Option Nat).bind fun a11 =>
  if x4 = 0 then
    if kdx σ a11 = 20 then
    if ¬ (x3 < 0 ∨ lnx σ a11 ≤ Int32.toNatClampNeg x3) then
    let I14 := u2 I9 a11 (Int32.toNatClampNeg x3) (0 : Int32)
    let v15 := x3 + (3 : Int32)
    q104 I14 x1 x2 v15
    else none
    else none
  else
    if x5 = 0 then
      if kdx σ a11 = 20 then
      if ¬ (x3 < 0 ∨ lnx σ a11 ≤ Int32.toNatClampNeg x3) then
      let I22 := u2 I9 a11 (Int32.toNatClampNeg x3) ((I9 a11 (Int32.toNatClampNeg x3)) + (1 : Int32))
      let v23 := x3 + (3 : Int32)
      q104 I22 x1 x2 v23
      else none
      else none
    else
      if kdx σ a11 = 20 then
      if ¬ (x3 < 0 ∨ lnx σ a11 ≤ Int32.toNatClampNeg x3) then
      let I18 := u2 I9 a11 (Int32.toNatClampNeg x3) (0 : Int32)
      let v19 := x3 + (3 : Int32)
      q104 I18 x1 x2 v19
      else none
      else none
  else none
  else none
  else none
theorem wX12_countIn_b186 {G : Gx} {l : Launch} {σ : Shp} {I : Nat → Nat → Int32} {J : Nat → Nat → Int64} {D : Nat → Nat → UInt64} {R : Nat → Nat → Option Nat} {t : Nat} {I9 : Nat → Nat → Int32} {q104 : (Nat → Nat → Int32) → (Int32) → (Int32) → (Int32) → (Option ((Nat → Nat → Int32)))} {x1 : Int32} {x2 : Int32} {x3 : Int32} {x4 : Int32} {x5 : Int32} {s0 : Option Nat} {s1 : Int32} {s2 : Int32} (hq104 : ∀ (I : Nat → Nat → Int32) (x1 : Int32) (x2 : Int32) (x3 : Int32), q104 I x1 x2 x3 = some I9 → WX12_countIn G l σ (σ, I9, J, D, R) none (σ, I, J, D, R) 104 [(0, vR (some t)), (1, vI x1), (2, vI x2), (3, vI x3)] []) (h : fX12_countIn_b186 q104 σ J D R t I x1 x2 x3 x4 x5 s0 s1 s2 = some I9) : WX12_countIn G l σ (σ, I9, J, D, R) none (σ, I, J, D, R) 186 [(0, vR (some t)), (1, vI x1), (2, vI x2), (3, vI x3), (4, vI x4), (5, vI x5)] [vI s2, vI s1, vR s0] := by
  unfold fX12_countIn_b186 at h
  obtain ⟨a6, ha6, h⟩ := ob h
  refine r_ref2 ha6 ?_
  obtain ⟨g7, h⟩ := gd h
  obtain ⟨g8, h⟩ := gd h
  refine r_iastore (pc := 186) dX12_countIn_186 g7 g8 ?_
  refine r_aload_n (pc := 187) dX12_countIn_187 rfl 0 rfl ?_
  obtain ⟨g10, h⟩ := gd h
  obtain ⟨a11, ha11, h⟩ := ob h
  refine r_getS (pc := 188) dX12_countIn_188 fgX12_189 rfl g10 ha11 ?_
  refine r_iload_n (pc := 191) dX12_countIn_191 rfl 3 rfl ?_
  refine r_iload (pc := 192) dX12_countIn_192 4 rfl ?_
  refine r_if_eq (pc := 194) (tgt := 213) dX12_countIn_194 rfl (fun c => ?_) (fun c => ?_)
  · have h := it h c
    refine r_iconst (pc := 213) dX12_countIn_213 kc_iconst_0 ?_
    obtain ⟨g12, h⟩ := gd h
    obtain ⟨g13, h⟩ := gd h
    refine r_iastore (pc := 214) dX12_countIn_214 g12 g13 ?_
    refine r_iinc (pc := 215) (v := (x3 + (3 : Int32))) (L' := [(3, vI (x3 + (3 : Int32))), (0, vR (some t)), (1, vI x1), (2, vI x2), (4, vI x4), (5, vI x5)]) dX12_countIn_215 3 rfl (kc_inc_3 _) (by decide) rfl ?_
    refine r_goto (pc := 218) (tgt := 104) dX12_countIn_218 rfl ?_
    refine r_sub [1, 2, 3, 0] rfl ?_
    exact hq104 _ _ _ _ h
  · have h := ie h c
    refine r_iload (pc := 197) dX12_countIn_197 5 rfl ?_
    refine r_ifne (pc := 199) (tgt := 213) dX12_countIn_199 rfl (fun c => ?_) (fun c => ?_)
    · have h := ie h c
      refine r_iconst (pc := 213) dX12_countIn_213 kc_iconst_0 ?_
      obtain ⟨g16, h⟩ := gd h
      obtain ⟨g17, h⟩ := gd h
      refine r_iastore (pc := 214) dX12_countIn_214 g16 g17 ?_
      refine r_iinc (pc := 215) (v := (x3 + (3 : Int32))) (L' := [(3, vI (x3 + (3 : Int32))), (0, vR (some t)), (1, vI x1), (2, vI x2), (4, vI x4), (5, vI x5)]) dX12_countIn_215 3 rfl (kc_inc_3 _) (by decide) rfl ?_
      refine r_goto (pc := 218) (tgt := 104) dX12_countIn_218 rfl ?_
      refine r_sub [1, 2, 3, 0] rfl ?_
      exact hq104 _ _ _ _ h
    · have h := it h c
      refine r_aload_n (pc := 202) dX12_countIn_202 rfl 0 rfl ?_
      refine r_getS (pc := 203) dX12_countIn_203 fgX12_189 rfl g10 ha11 ?_
      refine r_iload_n (pc := 206) dX12_countIn_206 rfl 3 rfl ?_
      obtain ⟨g20, h⟩ := gd h
      obtain ⟨g21, h⟩ := gd h
      refine r_iaload (pc := 207) dX12_countIn_207 g20 g21 ?_
      refine r_iconst (pc := 208) dX12_countIn_208 kc_iconst_1 ?_
      refine r_iadd (pc := 209) dX12_countIn_209 ?_
      refine r_goto (pc := 210) (tgt := 214) dX12_countIn_210 rfl ?_
      refine r_iastore (pc := 214) dX12_countIn_214 g20 g21 ?_
      refine r_iinc (pc := 215) (v := (x3 + (3 : Int32))) (L' := [(3, vI (x3 + (3 : Int32))), (0, vR (some t)), (1, vI x1), (2, vI x2), (4, vI x4), (5, vI x5)]) dX12_countIn_215 3 rfl (kc_inc_3 _) (by decide) rfl ?_
      refine r_goto (pc := 218) (tgt := 104) dX12_countIn_218 rfl ?_
      refine r_sub [1, 2, 3, 0] rfl ?_
      exact hq104 _ _ _ _ h
def fX12_countIn_b162 (q104 : (Nat → Nat → Int32) → (Int32) → (Int32) → (Int32) → (Option ((Nat → Nat → Int32)))) (σ : Shp) (J : Nat → Nat → Int64) (D : Nat → Nat → UInt64) (R : Nat → Nat → Option Nat) (t : Nat) (I : Nat → Nat → Int32) (x1 : Int32) (x2 : Int32) (x3 : Int32) (x4 : Int32) (s0 : Int32) : Option ((Nat → Nat → Int32)) :=
  if kdx σ t = 13 then
  ((R t 90) : Option Nat).bind fun a5 =>
  if s0 = 0 then
    fX12_countIn_b186 q104 σ J D R t I x1 x2 x3 x4 s0 (some a5) x3 (0 : Int32)
  else
    if kdx σ a5 = 20 then
    if ¬ (x3 < 0 ∨ lnx σ a5 ≤ Int32.toNatClampNeg x3) then
    fX12_countIn_b186 q104 σ J D R t I x1 x2 x3 x4 s0 (some a5) x3 ((I a5 (Int32.toNatClampNeg x3)) + (1 : Int32))
    else none
    else none
  else none
theorem wX12_countIn_b162 {G : Gx} {l : Launch} {σ : Shp} {I : Nat → Nat → Int32} {J : Nat → Nat → Int64} {D : Nat → Nat → UInt64} {R : Nat → Nat → Option Nat} {t : Nat} {I9 : Nat → Nat → Int32} {q104 : (Nat → Nat → Int32) → (Int32) → (Int32) → (Int32) → (Option ((Nat → Nat → Int32)))} {x1 : Int32} {x2 : Int32} {x3 : Int32} {x4 : Int32} {s0 : Int32} (hq104 : ∀ (I : Nat → Nat → Int32) (x1 : Int32) (x2 : Int32) (x3 : Int32), q104 I x1 x2 x3 = some I9 → WX12_countIn G l σ (σ, I9, J, D, R) none (σ, I, J, D, R) 104 [(0, vR (some t)), (1, vI x1), (2, vI x2), (3, vI x3)] []) (h : fX12_countIn_b162 q104 σ J D R t I x1 x2 x3 x4 s0 = some I9) : WX12_countIn G l σ (σ, I9, J, D, R) none (σ, I, J, D, R) 162 [(0, vR (some t)), (1, vI x1), (2, vI x2), (3, vI x3), (4, vI x4)] [vI s0] := by
  unfold fX12_countIn_b162 at h
  refine r_istore (pc := 162) (L' := [(5, vI s0), (0, vR (some t)), (1, vI x1), (2, vI x2), (3, vI x3), (4, vI x4)]) dX12_countIn_162 (by decide) rfl ?_
  refine r_aload_n (pc := 164) dX12_countIn_164 rfl 1 rfl ?_
  obtain ⟨g4, h⟩ := gd h
  obtain ⟨a5, ha5, h⟩ := ob h
  refine r_getS (pc := 165) dX12_countIn_165 fgX12_186 rfl g4 ha5 ?_
  refine r_iload_n (pc := 168) dX12_countIn_168 rfl 4 rfl ?_
  refine r_iload (pc := 169) dX12_countIn_169 0 rfl ?_
  refine r_if_eq (pc := 171) (tgt := 185) dX12_countIn_171 rfl (fun c => ?_) (fun c => ?_)
  · have h := it h c
    refine r_iconst (pc := 185) dX12_countIn_185 kc_iconst_0 ?_
    refine r_sub [1, 2, 3, 4, 5, 0] rfl ?_
    exact wX12_countIn_b186 hq104 h
  · have h := ie h c
    refine r_aload_n (pc := 174) dX12_countIn_174 rfl 1 rfl ?_
    refine r_getS (pc := 175) dX12_countIn_175 fgX12_186 rfl g4 ha5 ?_
    refine r_iload_n (pc := 178) dX12_countIn_178 rfl 4 rfl ?_
    obtain ⟨g24, h⟩ := gd h
    obtain ⟨g25, h⟩ := gd h
    refine r_iaload (pc := 179) dX12_countIn_179 g24 g25 ?_
    refine r_iconst (pc := 180) dX12_countIn_180 kc_iconst_1 ?_
    refine r_iadd (pc := 181) dX12_countIn_181 ?_
    refine r_goto (pc := 182) (tgt := 186) dX12_countIn_182 rfl ?_
    refine r_sub [1, 2, 3, 4, 5, 0] rfl ?_
    exact wX12_countIn_b186 hq104 h
def fX12_countIn_b141 (q104 : (Nat → Nat → Int32) → (Int32) → (Int32) → (Int32) → (Option ((Nat → Nat → Int32)))) (σ : Shp) (J : Nat → Nat → Int64) (D : Nat → Nat → UInt64) (R : Nat → Nat → Option Nat) (t : Nat) (I : Nat → Nat → Int32) (x1 : Int32) (x2 : Int32) (x3 : Int32) (s0 : Int32) : Option ((Nat → Nat → Int32)) :=
  if s0 = 0 then
    fX12_countIn_b162 q104 σ J D R t I x1 x2 x3 s0 (0 : Int32)
  else
    if kdx σ t = 13 then
    (fX12_isOff σ J D R t x3 x1).bind fun r27 =>
    if r27 = 0 then
      fX12_countIn_b162 q104 σ J D R t I x1 x2 x3 s0 (0 : Int32)
    else
      fX12_countIn_b162 q104 σ J D R t I x1 x2 x3 s0 (1 : Int32)
    else none
theorem wX12_countIn_b141 {G : Gx} {l : Launch} {σ : Shp} {I : Nat → Nat → Int32} {J : Nat → Nat → Int64} {D : Nat → Nat → UInt64} {R : Nat → Nat → Option Nat} {t : Nat} {I9 : Nat → Nat → Int32} {q104 : (Nat → Nat → Int32) → (Int32) → (Int32) → (Int32) → (Option ((Nat → Nat → Int32)))} {x1 : Int32} {x2 : Int32} {x3 : Int32} {s0 : Int32} (hq104 : ∀ (I : Nat → Nat → Int32) (x1 : Int32) (x2 : Int32) (x3 : Int32), q104 I x1 x2 x3 = some I9 → WX12_countIn G l σ (σ, I9, J, D, R) none (σ, I, J, D, R) 104 [(0, vR (some t)), (1, vI x1), (2, vI x2), (3, vI x3)] []) (h : fX12_countIn_b141 q104 σ J D R t I x1 x2 x3 s0 = some I9) : WX12_countIn G l σ (σ, I9, J, D, R) none (σ, I, J, D, R) 141 [(0, vR (some t)), (1, vI x1), (2, vI x2), (3, vI x3)] [vI s0] := by
  unfold fX12_countIn_b141 at h
  refine r_istore (pc := 141) (L' := [(4, vI s0), (0, vR (some t)), (1, vI x1), (2, vI x2), (3, vI x3)]) dX12_countIn_141 (by decide) rfl ?_
  refine r_iload (pc := 143) dX12_countIn_143 0 rfl ?_
  refine r_if_eq (pc := 145) (tgt := 161) dX12_countIn_145 rfl (fun c => ?_) (fun c => ?_)
  · have h := it h c
    refine r_iconst (pc := 161) dX12_countIn_161 kc_iconst_0 ?_
    refine r_sub [1, 2, 3, 4, 0] rfl ?_
    exact wX12_countIn_b162 hq104 h
  · have h := ie h c
    refine r_aload_n (pc := 148) dX12_countIn_148 rfl 1 rfl ?_
    refine r_iload_n (pc := 149) dX12_countIn_149 rfl 4 rfl ?_
    refine r_iload_n (pc := 150) dX12_countIn_150 rfl 2 rfl ?_
    obtain ⟨g26, h⟩ := gd h
    obtain ⟨r27, hc28, h⟩ := ob h
    refine r_callV1 (pc := 151) (av := [vI x3, vI x1]) (S := []) dX12_countIn_151 (kX12_isOff hc28) g26 rfl mkX12_646 mwX12_isOff rfl ⟨Nat.le_of_ble_eq_true rfl, Nat.le_of_ble_eq_true rfl⟩ (Nat.le_of_ble_eq_true rfl) ⟨Nat.le_refl _, Nat.le_refl _⟩ (fun b => b) ?_
    refine r_if_eq (pc := 154) (tgt := 161) dX12_countIn_154 rfl (fun c => ?_) (fun c => ?_)
    · have h := it h c
      refine r_iconst (pc := 161) dX12_countIn_161 kc_iconst_0 ?_
      refine r_sub [1, 2, 3, 4, 0] rfl ?_
      exact wX12_countIn_b162 hq104 h
    · have h := ie h c
      refine r_iconst (pc := 157) dX12_countIn_157 kc_iconst_1 ?_
      refine r_goto (pc := 158) (tgt := 162) dX12_countIn_158 rfl ?_
      refine r_sub [1, 2, 3, 4, 0] rfl ?_
      exact wX12_countIn_b162 hq104 h
def fX12_countIn_l104  (σ : Shp) (J : Nat → Nat → Int64) (D : Nat → Nat → UInt64) (R : Nat → Nat → Option Nat) (t : Nat) : Nat → (Nat → Nat → Int32) → (Int32) → (Int32) → (Int32) → Option ((Nat → Nat → Int32))
  | 0, _, _, _, _ => none
  | n + 1, I, x1, x2, x3 =>
    if (9 : Int32) ≤ x3 then
      some I
    else
      if kdx σ t = 13 then
      (fX12_reads σ J R t x3).bind fun r2 =>
      if r2 = 0 then
        fX12_countIn_b141 (fX12_countIn_l104 σ J D R t n) σ J D R t I x1 x2 x3 (0 : Int32)
      else
        if x2 = (3 : Int32) then
          ((R t 95) : Option Nat).bind fun a29 =>
          if kdx σ a29 = 21 then
          if ¬ (x1 < 0 ∨ lnx σ a29 ≤ Int32.toNatClampNeg x1) then
          if (J a29 (Int32.toNatClampNeg x1)) = (9221120237041090560 : Int64) then
            fX12_countIn_b141 (fX12_countIn_l104 σ J D R t n) σ J D R t I x1 x2 x3 (0 : Int32)
          else
            fX12_countIn_b141 (fX12_countIn_l104 σ J D R t n) σ J D R t I x1 x2 x3 (1 : Int32)
          else none
          else none
        else
          fX12_countIn_b141 (fX12_countIn_l104 σ J D R t n) σ J D R t I x1 x2 x3 (0 : Int32)
      else none
theorem wX12_countIn_l104 {G : Gx} {l : Launch} {σ : Shp} {J : Nat → Nat → Int64} {D : Nat → Nat → UInt64} {R : Nat → Nat → Option Nat} {t : Nat} {I9 : Nat → Nat → Int32} : ∀ (n : Nat) (I : Nat → Nat → Int32) (x1 : Int32) (x2 : Int32) (x3 : Int32), fX12_countIn_l104 σ J D R t n I x1 x2 x3 = some I9 → WX12_countIn G l σ (σ, I9, J, D, R) none (σ, I, J, D, R) 104 [(0, vR (some t)), (1, vI x1), (2, vI x2), (3, vI x3)] [] := by
  intro n
  induction n with
  | zero =>
    intro I x1 x2 x3 h
    have h : none = some _ := h
    cases h
  | succ n ih =>
    intro I x1 x2 x3 h
    rw [fX12_countIn_l104] at h
    refine r_iload_n (pc := 104) dX12_countIn_104 rfl 3 rfl ?_
    refine r_bipush (pc := 105) dX12_countIn_105 kc_bipush_9 ?_
    refine r_icmp_ge (pc := 107) (tgt := 221) dX12_countIn_107 rfl (fun c => ?_) (fun c => ?_)
    · have h := it h c
      cases h
      exact r_vret dX12_countIn_221
    · have h := ie h c
      refine r_aload_n (pc := 110) dX12_countIn_110 rfl 0 rfl ?_
      refine r_iload_n (pc := 111) dX12_countIn_111 rfl 3 rfl ?_
      obtain ⟨g1, h⟩ := gd h
      obtain ⟨r2, hc3, h⟩ := ob h
      refine r_callV1 (pc := 112) (av := [vI x3]) (S := []) dX12_countIn_112 (kX12_reads hc3) g1 rfl mkX12_636 mwX12_reads rfl ⟨Nat.le_of_ble_eq_true rfl, Nat.le_of_ble_eq_true rfl⟩ (Nat.le_of_ble_eq_true rfl) ⟨Nat.le_refl _, Nat.le_refl _⟩ (fun b => b) ?_
      refine r_if_eq (pc := 115) (tgt := 140) dX12_countIn_115 rfl (fun c => ?_) (fun c => ?_)
      · have h := it h c
        refine r_iconst (pc := 140) dX12_countIn_140 kc_iconst_0 ?_
        refine r_sub [0, 1, 2, 3] rfl ?_
        exact wX12_countIn_b141 ih h
      · have h := ie h c
        refine r_iload_n (pc := 118) dX12_countIn_118 rfl 2 rfl ?_
        refine r_iconst (pc := 119) dX12_countIn_119 kc_iconst_3 ?_
        refine r_icmp_ne (pc := 120) (tgt := 140) dX12_countIn_120 rfl (fun c => ?_) (fun c => ?_)
        · have h := ie h c
          refine r_iconst (pc := 140) dX12_countIn_140 kc_iconst_0 ?_
          refine r_sub [0, 1, 2, 3] rfl ?_
          exact wX12_countIn_b141 ih h
        · have h := it h c
          refine r_aload_n (pc := 123) dX12_countIn_123 rfl 0 rfl ?_
          obtain ⟨a29, ha29, h⟩ := ob h
          refine r_getS (pc := 124) dX12_countIn_124 fgX12_204 rfl g1 ha29 ?_
          refine r_iload_n (pc := 127) dX12_countIn_127 rfl 1 rfl ?_
          obtain ⟨g30, h⟩ := gd h
          obtain ⟨g31, h⟩ := gd h
          refine r_laload (pc := 128) dX12_countIn_128 g30 g31 ?_
          refine r_ldc2 (pc := 129) dX12_countIn_129 clX12_172 ?_
          refine r_lcmp (pc := 132) dX12_countIn_132 ?_
          refine r_if_eq (pc := 133) (tgt := 140) dX12_countIn_133 rfl (fun c => ?_) (fun c => ?_)
          · have h := it h (lgc_eq.mp c)
            refine r_iconst (pc := 140) dX12_countIn_140 kc_iconst_0 ?_
            refine r_sub [0, 1, 2, 3] rfl ?_
            exact wX12_countIn_b141 ih h
          · have h := ie h (fun q => c (lgc_eq.mpr q))
            refine r_iconst (pc := 136) dX12_countIn_136 kc_iconst_1 ?_
            refine r_goto (pc := 137) (tgt := 141) dX12_countIn_137 rfl ?_
            refine r_sub [0, 1, 2, 3] rfl ?_
            exact wX12_countIn_b141 ih h
def fX12_countIn_b60 (q4 : (Nat → Nat → Int32) → (Int32) → (Int32) → (Int32) → (Option ((Nat → Nat → Int32)))) (σ : Shp) (J : Nat → Nat → Int64) (D : Nat → Nat → UInt64) (R : Nat → Nat → Option Nat) (t : Nat) (I : Nat → Nat → Int32) (x1 : Int32) (x2 : Int32) (x3 : Int32) (s0 : Option Nat) (s1 : Int32) (s2 : Int32) : Option ((Nat → Nat → Int32)) :=
  (s0 : Option Nat).bind fun a38 =>
  if kdx σ a38 = 24 then
  if ¬ (s1 < 0 ∨ lnx σ a38 ≤ Int32.toNatClampNeg s1) then
  let I41 := u2 I a38 (Int32.toNatClampNeg s1) (vp_nar .boolean s2)
  if kdx σ t = 13 then
  ((R t 92) : Option Nat).bind fun a43 =>
  if (I41 t 85) ≤ (1 : Int32) then
    if kdx σ a43 = 20 then
    if ¬ (x3 < 0 ∨ lnx σ a43 ≤ Int32.toNatClampNeg x3) then
    let I46 := u2 I41 a43 (Int32.toNatClampNeg x3) (1 : Int32)
    let v47 := x3 + (3 : Int32)
    q4 I46 x1 x2 v47
    else none
    else none
  else
    ((R t 93) : Option Nat).bind fun a48 =>
    if kdx σ a48 = 24 then
    if ¬ (x3 < 0 ∨ lnx σ a48 ≤ Int32.toNatClampNeg x3) then
    if (I41 a48 (Int32.toNatClampNeg x3)) = 0 then
      if kdx σ a43 = 20 then
      if ¬ (x3 < 0 ∨ lnx σ a43 ≤ Int32.toNatClampNeg x3) then
      let I57 := u2 I41 a43 (Int32.toNatClampNeg x3) ((I41 a43 (Int32.toNatClampNeg x3)) + (1 : Int32))
      let v58 := x3 + (3 : Int32)
      q4 I57 x1 x2 v58
      else none
      else none
    else
      if kdx σ a43 = 20 then
      if ¬ (x3 < 0 ∨ lnx σ a43 ≤ Int32.toNatClampNeg x3) then
      let I53 := u2 I41 a43 (Int32.toNatClampNeg x3) (1 : Int32)
      let v54 := x3 + (3 : Int32)
      q4 I53 x1 x2 v54
      else none
      else none
    else none
    else none
  else none
  else none
  else none
theorem wX12_countIn_b60 {G : Gx} {l : Launch} {σ : Shp} {I : Nat → Nat → Int32} {J : Nat → Nat → Int64} {D : Nat → Nat → UInt64} {R : Nat → Nat → Option Nat} {t : Nat} {I9 : Nat → Nat → Int32} {q4 : (Nat → Nat → Int32) → (Int32) → (Int32) → (Int32) → (Option ((Nat → Nat → Int32)))} {x1 : Int32} {x2 : Int32} {x3 : Int32} {s0 : Option Nat} {s1 : Int32} {s2 : Int32} (hq4 : ∀ (I : Nat → Nat → Int32) (x1 : Int32) (x2 : Int32) (x3 : Int32), q4 I x1 x2 x3 = some I9 → WX12_countIn G l σ (σ, I9, J, D, R) none (σ, I, J, D, R) 4 [(0, vR (some t)), (1, vI x1), (2, vI x2), (3, vI x3)] []) (h : fX12_countIn_b60 q4 σ J D R t I x1 x2 x3 s0 s1 s2 = some I9) : WX12_countIn G l σ (σ, I9, J, D, R) none (σ, I, J, D, R) 60 [(0, vR (some t)), (1, vI x1), (2, vI x2), (3, vI x3)] [vI s2, vI s1, vR s0] := by
  unfold fX12_countIn_b60 at h
  obtain ⟨a38, ha38, h⟩ := ob h
  refine r_ref2 ha38 ?_
  obtain ⟨g39, h⟩ := gd h
  obtain ⟨g40, h⟩ := gd h
  refine r_zastore (pc := 60) dX12_countIn_60 g39 g40 ?_
  refine r_aload_n (pc := 61) dX12_countIn_61 rfl 0 rfl ?_
  obtain ⟨g42, h⟩ := gd h
  obtain ⟨a43, ha43, h⟩ := ob h
  refine r_getS (pc := 62) dX12_countIn_62 fgX12_192 rfl g42 ha43 ?_
  refine r_iload_n (pc := 65) dX12_countIn_65 rfl 3 rfl ?_
  refine r_aload_n (pc := 66) dX12_countIn_66 rfl 0 rfl ?_
  refine r_getI (pc := 67) dX12_countIn_67 fgX12_643 rfl g42 ?_
  refine r_iconst (pc := 70) dX12_countIn_70 kc_iconst_1 ?_
  refine r_icmp_le (pc := 71) (tgt := 94) dX12_countIn_71 rfl (fun c => ?_) (fun c => ?_)
  · have h := it h c
    refine r_iconst (pc := 94) dX12_countIn_94 kc_iconst_1 ?_
    obtain ⟨g44, h⟩ := gd h
    obtain ⟨g45, h⟩ := gd h
    refine r_iastore (pc := 95) dX12_countIn_95 g44 g45 ?_
    refine r_iinc (pc := 96) (v := (x3 + (3 : Int32))) (L' := [(3, vI (x3 + (3 : Int32))), (0, vR (some t)), (1, vI x1), (2, vI x2)]) dX12_countIn_96 3 rfl (kc_inc_3 _) (by decide) rfl ?_
    refine r_goto (pc := 99) (tgt := 4) dX12_countIn_99 rfl ?_
    refine r_sub [1, 2, 3, 0] rfl ?_
    exact hq4 _ _ _ _ h
  · have h := ie h c
    refine r_aload_n (pc := 74) dX12_countIn_74 rfl 0 rfl ?_
    obtain ⟨a48, ha48, h⟩ := ob h
    refine r_getS (pc := 75) dX12_countIn_75 fgX12_195 rfl g42 ha48 ?_
    refine r_iload_n (pc := 78) dX12_countIn_78 rfl 3 rfl ?_
    obtain ⟨g49, h⟩ := gd h
    obtain ⟨g50, h⟩ := gd h
    refine r_zaload (pc := 79) dX12_countIn_79 g49 g50 ?_
    refine r_ifne (pc := 80) (tgt := 94) dX12_countIn_80 rfl (fun c => ?_) (fun c => ?_)
    · have h := ie h c
      refine r_iconst (pc := 94) dX12_countIn_94 kc_iconst_1 ?_
      obtain ⟨g51, h⟩ := gd h
      obtain ⟨g52, h⟩ := gd h
      refine r_iastore (pc := 95) dX12_countIn_95 g51 g52 ?_
      refine r_iinc (pc := 96) (v := (x3 + (3 : Int32))) (L' := [(3, vI (x3 + (3 : Int32))), (0, vR (some t)), (1, vI x1), (2, vI x2)]) dX12_countIn_96 3 rfl (kc_inc_3 _) (by decide) rfl ?_
      refine r_goto (pc := 99) (tgt := 4) dX12_countIn_99 rfl ?_
      refine r_sub [1, 2, 3, 0] rfl ?_
      exact hq4 _ _ _ _ h
    · have h := it h c
      refine r_aload_n (pc := 83) dX12_countIn_83 rfl 0 rfl ?_
      refine r_getS (pc := 84) dX12_countIn_84 fgX12_192 rfl g42 ha43 ?_
      refine r_iload_n (pc := 87) dX12_countIn_87 rfl 3 rfl ?_
      obtain ⟨g55, h⟩ := gd h
      obtain ⟨g56, h⟩ := gd h
      refine r_iaload (pc := 88) dX12_countIn_88 g55 g56 ?_
      refine r_iconst (pc := 89) dX12_countIn_89 kc_iconst_1 ?_
      refine r_iadd (pc := 90) dX12_countIn_90 ?_
      refine r_goto (pc := 91) (tgt := 95) dX12_countIn_91 rfl ?_
      refine r_iastore (pc := 95) dX12_countIn_95 g55 g56 ?_
      refine r_iinc (pc := 96) (v := (x3 + (3 : Int32))) (L' := [(3, vI (x3 + (3 : Int32))), (0, vR (some t)), (1, vI x1), (2, vI x2)]) dX12_countIn_96 3 rfl (kc_inc_3 _) (by decide) rfl ?_
      refine r_goto (pc := 99) (tgt := 4) dX12_countIn_99 rfl ?_
      refine r_sub [1, 2, 3, 0] rfl ?_
      exact hq4 _ _ _ _ h
def fX12_countIn_b24 (q4 : (Nat → Nat → Int32) → (Int32) → (Int32) → (Int32) → (Option ((Nat → Nat → Int32)))) (σ : Shp) (J : Nat → Nat → Int64) (D : Nat → Nat → UInt64) (R : Nat → Nat → Option Nat) (t : Nat) (I : Nat → Nat → Int32) (x1 : Int32) (x3 : Int32) (s0 : Int32) (s1 : Int32) : Option ((Nat → Nat → Int32)) :=
  let v35 := (s0 + s1)
  if kdx σ t = 13 then
  ((R t 93) : Option Nat).bind fun a37 =>
  if (I t 85) ≤ (1 : Int32) then
    fX12_countIn_b60 q4 σ J D R t I x1 v35 x3 (some a37) x3 (0 : Int32)
  else
    ((R t 86) : Option Nat).bind fun a59 =>
    if kdx σ a59 = 21 then
    if ¬ (x3 < 0 ∨ lnx σ a59 ≤ Int32.toNatClampNeg x3) then
    ((R t 87) : Option Nat).bind fun a62 =>
    if kdx σ a62 = 21 then
    if ¬ (x3 < 0 ∨ lnx σ a62 ≤ Int32.toNatClampNeg x3) then
    if (J a59 (Int32.toNatClampNeg x3)) = (J a62 (Int32.toNatClampNeg x3)) then
      fX12_countIn_b60 q4 σ J D R t I x1 v35 x3 (some a37) x3 (0 : Int32)
    else
      fX12_countIn_b60 q4 σ J D R t I x1 v35 x3 (some a37) x3 (1 : Int32)
    else none
    else none
    else none
    else none
  else none
theorem wX12_countIn_b24 {G : Gx} {l : Launch} {σ : Shp} {I : Nat → Nat → Int32} {J : Nat → Nat → Int64} {D : Nat → Nat → UInt64} {R : Nat → Nat → Option Nat} {t : Nat} {I9 : Nat → Nat → Int32} {q4 : (Nat → Nat → Int32) → (Int32) → (Int32) → (Int32) → (Option ((Nat → Nat → Int32)))} {x1 : Int32} {x3 : Int32} {s0 : Int32} {s1 : Int32} (hq4 : ∀ (I : Nat → Nat → Int32) (x1 : Int32) (x2 : Int32) (x3 : Int32), q4 I x1 x2 x3 = some I9 → WX12_countIn G l σ (σ, I9, J, D, R) none (σ, I, J, D, R) 4 [(0, vR (some t)), (1, vI x1), (2, vI x2), (3, vI x3)] []) (h : fX12_countIn_b24 q4 σ J D R t I x1 x3 s0 s1 = some I9) : WX12_countIn G l σ (σ, I9, J, D, R) none (σ, I, J, D, R) 24 [(0, vR (some t)), (1, vI x1), (3, vI x3)] [vI s1, vI s0] := by
  unfold fX12_countIn_b24 at h
  refine r_iadd (pc := 24) dX12_countIn_24 ?_
  refine r_istore_n (pc := 25) (L' := [(2, vI (s0 + s1)), (0, vR (some t)), (1, vI x1), (3, vI x3)]) dX12_countIn_25 rfl (by decide) rfl ?_
  refine r_aload_n (pc := 26) dX12_countIn_26 rfl 1 rfl ?_
  obtain ⟨g36, h⟩ := gd h
  obtain ⟨a37, ha37, h⟩ := ob h
  refine r_getS (pc := 27) dX12_countIn_27 fgX12_195 rfl g36 ha37 ?_
  refine r_iload_n (pc := 30) dX12_countIn_30 rfl 3 rfl ?_
  refine r_aload_n (pc := 31) dX12_countIn_31 rfl 1 rfl ?_
  refine r_getI (pc := 32) dX12_countIn_32 fgX12_643 rfl g36 ?_
  refine r_iconst (pc := 35) dX12_countIn_35 kc_iconst_1 ?_
  refine r_icmp_le (pc := 36) (tgt := 59) dX12_countIn_36 rfl (fun c => ?_) (fun c => ?_)
  · have h := it h c
    refine r_iconst (pc := 59) dX12_countIn_59 kc_iconst_0 ?_
    refine r_sub [1, 2, 0, 3] rfl ?_
    exact wX12_countIn_b60 hq4 h
  · have h := ie h c
    refine r_aload_n (pc := 39) dX12_countIn_39 rfl 1 rfl ?_
    obtain ⟨a59, ha59, h⟩ := ob h
    refine r_getS (pc := 40) dX12_countIn_40 fgX12_174 rfl g36 ha59 ?_
    refine r_iload_n (pc := 43) dX12_countIn_43 rfl 3 rfl ?_
    obtain ⟨g60, h⟩ := gd h
    obtain ⟨g61, h⟩ := gd h
    refine r_laload (pc := 44) dX12_countIn_44 g60 g61 ?_
    refine r_aload_n (pc := 45) dX12_countIn_45 rfl 1 rfl ?_
    obtain ⟨a62, ha62, h⟩ := ob h
    refine r_getS (pc := 46) dX12_countIn_46 fgX12_177 rfl g36 ha62 ?_
    refine r_iload_n (pc := 49) dX12_countIn_49 rfl 3 rfl ?_
    obtain ⟨g63, h⟩ := gd h
    obtain ⟨g64, h⟩ := gd h
    refine r_laload (pc := 50) dX12_countIn_50 g63 g64 ?_
    refine r_lcmp (pc := 51) dX12_countIn_51 ?_
    refine r_if_eq (pc := 52) (tgt := 59) dX12_countIn_52 rfl (fun c => ?_) (fun c => ?_)
    · have h := it h (lgc_eq.mp c)
      refine r_iconst (pc := 59) dX12_countIn_59 kc_iconst_0 ?_
      refine r_sub [1, 2, 0, 3] rfl ?_
      exact wX12_countIn_b60 hq4 h
    · have h := ie h (fun q => c (lgc_eq.mpr q))
      refine r_iconst (pc := 55) dX12_countIn_55 kc_iconst_1 ?_
      refine r_goto (pc := 56) (tgt := 60) dX12_countIn_56 rfl ?_
      refine r_sub [1, 2, 0, 3] rfl ?_
      exact wX12_countIn_b60 hq4 h
def fX12_countIn_l4  (σ : Shp) (J : Nat → Nat → Int64) (D : Nat → Nat → UInt64) (R : Nat → Nat → Option Nat) (t : Nat) : Nat → (Nat → Nat → Int32) → (Int32) → (Int32) → (Int32) → Option ((Nat → Nat → Int32))
  | 0, _, _, _, _ => none
  | n + 1, I, x1, x2, x3 =>
    if (9 : Int32) ≤ x3 then
      fX12_countIn_l104 σ J D R t FUx I x1 x2 x1
    else
      if kdx σ t = 13 then
      (fX12_reads σ J R t x3).bind fun r33 =>
      if r33 = 0 then
        fX12_countIn_b24 (fX12_countIn_l4 σ J D R t n) σ J D R t I x1 x3 x2 (0 : Int32)
      else
        fX12_countIn_b24 (fX12_countIn_l4 σ J D R t n) σ J D R t I x1 x3 x2 (1 : Int32)
      else none
theorem wX12_countIn_l4 {G : Gx} {l : Launch} {σ : Shp} {J : Nat → Nat → Int64} {D : Nat → Nat → UInt64} {R : Nat → Nat → Option Nat} {t : Nat} {I9 : Nat → Nat → Int32} : ∀ (n : Nat) (I : Nat → Nat → Int32) (x1 : Int32) (x2 : Int32) (x3 : Int32), fX12_countIn_l4 σ J D R t n I x1 x2 x3 = some I9 → WX12_countIn G l σ (σ, I9, J, D, R) none (σ, I, J, D, R) 4 [(0, vR (some t)), (1, vI x1), (2, vI x2), (3, vI x3)] [] := by
  intro n
  induction n with
  | zero =>
    intro I x1 x2 x3 h
    have h : none = some _ := h
    cases h
  | succ n ih =>
    intro I x1 x2 x3 h
    rw [fX12_countIn_l4] at h
    refine r_iload_n (pc := 4) dX12_countIn_4 rfl 3 rfl ?_
    refine r_bipush (pc := 5) dX12_countIn_5 kc_bipush_9 ?_
    refine r_icmp_ge (pc := 7) (tgt := 102) dX12_countIn_7 rfl (fun c => ?_) (fun c => ?_)
    · have h := it h c
      refine r_iload_n (pc := 102) dX12_countIn_102 rfl 1 rfl ?_
      refine r_istore_n (pc := 103) (L' := [(3, vI x1), (0, vR (some t)), (1, vI x1), (2, vI x2)]) dX12_countIn_103 rfl (by decide) rfl ?_
      refine r_sub [1, 2, 3, 0] rfl ?_
      exact wX12_countIn_l104 _ _ _ _ _ h
    · have h := ie h c
      refine r_iload_n (pc := 10) dX12_countIn_10 rfl 2 rfl ?_
      refine r_aload_n (pc := 11) dX12_countIn_11 rfl 0 rfl ?_
      refine r_iload_n (pc := 12) dX12_countIn_12 rfl 3 rfl ?_
      obtain ⟨g32, h⟩ := gd h
      obtain ⟨r33, hc34, h⟩ := ob h
      refine r_callV1 (pc := 13) (av := [vI x3]) (S := [vI x2]) dX12_countIn_13 (kX12_reads hc34) g32 rfl mkX12_636 mwX12_reads rfl ⟨Nat.le_of_ble_eq_true rfl, Nat.le_of_ble_eq_true rfl⟩ (Nat.le_of_ble_eq_true rfl) ⟨Nat.le_refl _, Nat.le_refl _⟩ (fun b => b) ?_
      refine r_if_eq (pc := 16) (tgt := 23) dX12_countIn_16 rfl (fun c => ?_) (fun c => ?_)
      · have h := it h c
        refine r_iconst (pc := 23) dX12_countIn_23 kc_iconst_0 ?_
        refine r_sub [0, 1, 3] rfl ?_
        exact wX12_countIn_b24 ih h
      · have h := ie h c
        refine r_iconst (pc := 19) dX12_countIn_19 kc_iconst_1 ?_
        refine r_goto (pc := 20) (tgt := 24) dX12_countIn_20 rfl ?_
        refine r_sub [0, 1, 3] rfl ?_
        exact wX12_countIn_b24 ih h
def fX12_countIn (σ : Shp) (I : Nat → Nat → Int32) (J : Nat → Nat → Int64) (D : Nat → Nat → UInt64) (R : Nat → Nat → Option Nat) (t : Nat) (x1 : Int32) : Option ((Nat → Nat → Int32)) :=
  fX12_countIn_l4 σ J D R t FUx I x1 (0 : Int32) x1
theorem kX12_countIn {G : Gx} {l : Launch} {σ : Shp} {I : Nat → Nat → Int32} {J : Nat → Nat → Int64} {D : Nat → Nat → UInt64} {R : Nat → Nat → Option Nat} {t : Nat} {x1 : Int32} {I9 : Nat → Nat → Int32} (h : fX12_countIn σ I J D R t x1 = some I9) : Con G l yX12_countIn cX12_countIn 6 none 4 103 [vR (some t), vI x1] (σ, I, J, D, R) (σ, I9, J, D, R) none := by
  unfold fX12_countIn at h
  refine Con.mk (by decide +kernel) rfl (Nat.le_of_ble_eq_true rfl) ?_
  show WX12_countIn G l σ (σ, I9, J, D, R) none (σ, I, J, D, R) 0 _ []
  refine r_iconst (pc := 0) dX12_countIn_0 kc_iconst_0 ?_
  refine r_istore_n (pc := 1) (L' := [(2, vI (0 : Int32)), (0, vR (some t)), (1, vI x1)]) dX12_countIn_1 rfl (by decide) rfl ?_
  refine r_iload_n (pc := 2) dX12_countIn_2 rfl 2 rfl ?_
  refine r_istore_n (pc := 3) (L' := [(3, vI x1), (2, vI (0 : Int32)), (0, vR (some t)), (1, vI x1)]) dX12_countIn_3 rfl (by decide) rfl ?_
  refine r_sub [2, 3, 1, 0] rfl ?_
  exact wX12_countIn_l4 _ _ _ _ _ h
abbrev WX12_vote (G : Gx) (l : Launch) (σ0 : Shp) (X1 : Stt) (rv : Option SV) : Stt → Nat → List (Nat × SV) → List SV → Prop := Wm G l yX12_vote cX12_vote 7 none (fun _ => True) (rmx 5 128 σ0 X1.1) σ0 (Qmx G σ0 X1 rv)
def fX12_vote_l219  (σ : Shp) (D : Nat → Nat → UInt64) (R : Nat → Nat → Option Nat) (t : Nat) : Nat → (Nat → Nat → Int32) → (Nat → Nat → Int64) → (Int32) → Option ((Nat → Nat → Int32) × (Nat → Nat → Int64))
  | 0, _, _, _ => none
  | n + 1, I, J, x2 =>
    if (9 : Int32) ≤ x2 then
      some (I, J)
    else
      if kdx σ t = 13 then
      ((R t 87) : Option Nat).bind fun a7 =>
      ((R t 86) : Option Nat).bind fun a8 =>
      if kdx σ a8 = 21 then
      if ¬ (x2 < 0 ∨ lnx σ a8 ≤ Int32.toNatClampNeg x2) then
      if kdx σ a7 = 21 then
      if ¬ (x2 < 0 ∨ lnx σ a7 ≤ Int32.toNatClampNeg x2) then
      let J13 := u2 J a7 (Int32.toNatClampNeg x2) (J a8 (Int32.toNatClampNeg x2))
      let v14 := x2 + (3 : Int32)
      fX12_vote_l219 σ D R t n I J13 v14
      else none
      else none
      else none
      else none
      else none
theorem wX12_vote_l219 {G : Gx} {l : Launch} {σ : Shp} {D : Nat → Nat → UInt64} {R : Nat → Nat → Option Nat} {t : Nat} {I9 : Nat → Nat → Int32} {J9 : Nat → Nat → Int64} : ∀ (n : Nat) (I : Nat → Nat → Int32) (J : Nat → Nat → Int64) (x2 : Int32), fX12_vote_l219 σ D R t n I J x2 = some (I9, J9) → WX12_vote G l σ (σ, I9, J9, D, R) none (σ, I, J, D, R) 219 [(0, vR (some t)), (2, vI x2)] [] := by
  intro n
  induction n with
  | zero =>
    intro I J x2 h
    have h : none = some _ := h
    cases h
  | succ n ih =>
    intro I J x2 h
    rw [fX12_vote_l219] at h
    refine r_iload_n (pc := 219) dX12_vote_219 rfl 1 rfl ?_
    refine r_bipush (pc := 220) dX12_vote_220 kc_bipush_9 ?_
    refine r_icmp_ge (pc := 222) (tgt := 243) dX12_vote_222 rfl (fun c => ?_) (fun c => ?_)
    · have h := it h c
      cases h
      exact r_vret dX12_vote_243
    · have h := ie h c
      refine r_aload_n (pc := 225) dX12_vote_225 rfl 0 rfl ?_
      obtain ⟨g6, h⟩ := gd h
      obtain ⟨a7, ha7, h⟩ := ob h
      refine r_getS (pc := 226) dX12_vote_226 fgX12_177 rfl g6 ha7 ?_
      refine r_iload_n (pc := 229) dX12_vote_229 rfl 1 rfl ?_
      refine r_aload_n (pc := 230) dX12_vote_230 rfl 0 rfl ?_
      obtain ⟨a8, ha8, h⟩ := ob h
      refine r_getS (pc := 231) dX12_vote_231 fgX12_174 rfl g6 ha8 ?_
      refine r_iload_n (pc := 234) dX12_vote_234 rfl 1 rfl ?_
      obtain ⟨g9, h⟩ := gd h
      obtain ⟨g10, h⟩ := gd h
      refine r_laload (pc := 235) dX12_vote_235 g9 g10 ?_
      obtain ⟨g11, h⟩ := gd h
      obtain ⟨g12, h⟩ := gd h
      refine r_lastore (pc := 236) dX12_vote_236 g11 g12 ?_
      refine r_iinc (pc := 237) (v := (x2 + (3 : Int32))) (L' := [(2, vI (x2 + (3 : Int32))), (0, vR (some t))]) dX12_vote_237 1 rfl (kc_inc_3 _) (by decide) rfl ?_
      refine r_goto (pc := 240) (tgt := 219) dX12_vote_240 rfl ?_
      refine r_sub [1, 0] rfl ?_
      exact ih _ _ _ h
def fX12_vote_b164 (q12 : (Nat → Nat → Int32) → (Nat → Nat → Int64) → (Int32) → (Int32) → (Option ((Nat → Nat → Int32) × (Nat → Nat → Int64)))) (σ : Shp) (D : Nat → Nat → UInt64) (R : Nat → Nat → Option Nat) (t : Nat) (I : Nat → Nat → Int32) (J : Nat → Nat → Int64) (x1 : Int32) (x2 : Int32) (x4 : Int32) (x5 : Int32) : Option ((Nat → Nat → Int32) × (Nat → Nat → Int64)) :=
  if kdx σ t = 13 then
  ((R t 88) : Option Nat).bind fun a19 =>
  if kdx σ a19 = 24 then
  if ¬ (x2 < 0 ∨ lnx σ a19 ≤ Int32.toNatClampNeg x2) then
  let I22 := u2 I a19 (Int32.toNatClampNeg x2) (vp_nar .boolean x5)
  ((R t 89) : Option Nat).bind fun a23 =>
  if x4 = 0 then
    if x5 = 0 then
      if kdx σ a23 = 20 then
      if ¬ (x2 < 0 ∨ lnx σ a23 ≤ Int32.toNatClampNeg x2) then
      let I26 := u2 I22 a23 (Int32.toNatClampNeg x2) (0 : Int32)
      ((R t 90) : Option Nat).bind fun a27 =>
      if kdx σ a27 = 20 then
      if ¬ (x2 < 0 ∨ lnx σ a27 ≤ Int32.toNatClampNeg x2) then
      let I30 := u2 I26 a27 (Int32.toNatClampNeg x2) (0 : Int32)
      ((R t 91) : Option Nat).bind fun a31 =>
      if kdx σ a31 = 20 then
      if ¬ (x2 < 0 ∨ lnx σ a31 ≤ Int32.toNatClampNeg x2) then
      let I34 := u2 I30 a31 (Int32.toNatClampNeg x2) (0 : Int32)
      let v35 := x2 + (3 : Int32)
      q12 I34 J x1 v35
      else none
      else none
      else none
      else none
      else none
      else none
    else
      if kdx σ a23 = 20 then
      if ¬ (x2 < 0 ∨ lnx σ a23 ≤ Int32.toNatClampNeg x2) then
      let I38 := u2 I22 a23 (Int32.toNatClampNeg x2) (1 : Int32)
      ((R t 90) : Option Nat).bind fun a39 =>
      if kdx σ a39 = 20 then
      if ¬ (x2 < 0 ∨ lnx σ a39 ≤ Int32.toNatClampNeg x2) then
      let I42 := u2 I38 a39 (Int32.toNatClampNeg x2) (0 : Int32)
      ((R t 91) : Option Nat).bind fun a43 =>
      if kdx σ a43 = 20 then
      if ¬ (x2 < 0 ∨ lnx σ a43 ≤ Int32.toNatClampNeg x2) then
      let I46 := u2 I42 a43 (Int32.toNatClampNeg x2) (0 : Int32)
      let v47 := x2 + (3 : Int32)
      q12 I46 J x1 v47
      else none
      else none
      else none
      else none
      else none
      else none
  else
    if kdx σ a23 = 20 then
    if ¬ (x2 < 0 ∨ lnx σ a23 ≤ Int32.toNatClampNeg x2) then
    let I50 := u2 I22 a23 (Int32.toNatClampNeg x2) (2 : Int32)
    ((R t 90) : Option Nat).bind fun a51 =>
    if kdx σ a51 = 20 then
    if ¬ (x2 < 0 ∨ lnx σ a51 ≤ Int32.toNatClampNeg x2) then
    let I54 := u2 I50 a51 (Int32.toNatClampNeg x2) (0 : Int32)
    ((R t 91) : Option Nat).bind fun a55 =>
    if kdx σ a55 = 20 then
    if ¬ (x2 < 0 ∨ lnx σ a55 ≤ Int32.toNatClampNeg x2) then
    let I58 := u2 I54 a55 (Int32.toNatClampNeg x2) (0 : Int32)
    let v59 := x2 + (3 : Int32)
    q12 I58 J x1 v59
    else none
    else none
    else none
    else none
    else none
    else none
  else none
  else none
  else none
theorem wX12_vote_b164 {G : Gx} {l : Launch} {σ : Shp} {I : Nat → Nat → Int32} {J : Nat → Nat → Int64} {D : Nat → Nat → UInt64} {R : Nat → Nat → Option Nat} {t : Nat} {I9 : Nat → Nat → Int32} {J9 : Nat → Nat → Int64} {q12 : (Nat → Nat → Int32) → (Nat → Nat → Int64) → (Int32) → (Int32) → (Option ((Nat → Nat → Int32) × (Nat → Nat → Int64)))} {x1 : Int32} {x2 : Int32} {x4 : Int32} {x5 : Int32} (hq12 : ∀ (I : Nat → Nat → Int32) (J : Nat → Nat → Int64) (x1 : Int32) (x2 : Int32), q12 I J x1 x2 = some (I9, J9) → WX12_vote G l σ (σ, I9, J9, D, R) none (σ, I, J, D, R) 12 [(0, vR (some t)), (1, vI x1), (2, vI x2)] []) (h : fX12_vote_b164 q12 σ D R t I J x1 x2 x4 x5 = some (I9, J9)) : WX12_vote G l σ (σ, I9, J9, D, R) none (σ, I, J, D, R) 164 [(0, vR (some t)), (1, vI x1), (2, vI x2), (4, vI x4), (5, vI x5)] [] := by
  unfold fX12_vote_b164 at h
  refine r_aload_n (pc := 164) dX12_vote_164 rfl 0 rfl ?_
  obtain ⟨g18, h⟩ := gd h
  obtain ⟨a19, ha19, h⟩ := ob h
  refine r_getS (pc := 165) dX12_vote_165 fgX12_180 rfl g18 ha19 ?_
  refine r_iload_n (pc := 168) dX12_vote_168 rfl 2 rfl ?_
  refine r_iload (pc := 169) dX12_vote_169 4 rfl ?_
  obtain ⟨g20, h⟩ := gd h
  obtain ⟨g21, h⟩ := gd h
  refine r_zastore (pc := 171) dX12_vote_171 g20 g21 ?_
  refine r_aload_n (pc := 172) dX12_vote_172 rfl 0 rfl ?_
  obtain ⟨a23, ha23, h⟩ := ob h
  refine r_getS (pc := 173) dX12_vote_173 fgX12_183 rfl g18 ha23 ?_
  refine r_iload_n (pc := 176) dX12_vote_176 rfl 2 rfl ?_
  refine r_iload (pc := 177) dX12_vote_177 3 rfl ?_
  refine r_if_eq (pc := 179) (tgt := 186) dX12_vote_179 rfl (fun c => ?_) (fun c => ?_)
  · have h := it h c
    refine r_iload (pc := 186) dX12_vote_186 4 rfl ?_
    refine r_if_eq (pc := 188) (tgt := 195) dX12_vote_188 rfl (fun c => ?_) (fun c => ?_)
    · have h := it h c
      refine r_iconst (pc := 195) dX12_vote_195 kc_iconst_0 ?_
      obtain ⟨g24, h⟩ := gd h
      obtain ⟨g25, h⟩ := gd h
      refine r_iastore (pc := 196) dX12_vote_196 g24 g25 ?_
      refine r_aload_n (pc := 197) dX12_vote_197 rfl 0 rfl ?_
      obtain ⟨a27, ha27, h⟩ := ob h
      refine r_getS (pc := 198) dX12_vote_198 fgX12_186 rfl g18 ha27 ?_
      refine r_iload_n (pc := 201) dX12_vote_201 rfl 2 rfl ?_
      refine r_iconst (pc := 202) dX12_vote_202 kc_iconst_0 ?_
      obtain ⟨g28, h⟩ := gd h
      obtain ⟨g29, h⟩ := gd h
      refine r_iastore (pc := 203) dX12_vote_203 g28 g29 ?_
      refine r_aload_n (pc := 204) dX12_vote_204 rfl 0 rfl ?_
      obtain ⟨a31, ha31, h⟩ := ob h
      refine r_getS (pc := 205) dX12_vote_205 fgX12_189 rfl g18 ha31 ?_
      refine r_iload_n (pc := 208) dX12_vote_208 rfl 2 rfl ?_
      refine r_iconst (pc := 209) dX12_vote_209 kc_iconst_0 ?_
      obtain ⟨g32, h⟩ := gd h
      obtain ⟨g33, h⟩ := gd h
      refine r_iastore (pc := 210) dX12_vote_210 g32 g33 ?_
      refine r_iinc (pc := 211) (v := (x2 + (3 : Int32))) (L' := [(2, vI (x2 + (3 : Int32))), (0, vR (some t)), (1, vI x1), (4, vI x4), (5, vI x5)]) dX12_vote_211 2 rfl (kc_inc_3 _) (by decide) rfl ?_
      refine r_goto (pc := 214) (tgt := 12) dX12_vote_214 rfl ?_
      refine r_sub [1, 2, 0] rfl ?_
      exact hq12 _ _ _ _ h
    · have h := ie h c
      refine r_iconst (pc := 191) dX12_vote_191 kc_iconst_1 ?_
      refine r_goto (pc := 192) (tgt := 196) dX12_vote_192 rfl ?_
      obtain ⟨g36, h⟩ := gd h
      obtain ⟨g37, h⟩ := gd h
      refine r_iastore (pc := 196) dX12_vote_196 g36 g37 ?_
      refine r_aload_n (pc := 197) dX12_vote_197 rfl 0 rfl ?_
      obtain ⟨a39, ha39, h⟩ := ob h
      refine r_getS (pc := 198) dX12_vote_198 fgX12_186 rfl g18 ha39 ?_
      refine r_iload_n (pc := 201) dX12_vote_201 rfl 2 rfl ?_
      refine r_iconst (pc := 202) dX12_vote_202 kc_iconst_0 ?_
      obtain ⟨g40, h⟩ := gd h
      obtain ⟨g41, h⟩ := gd h
      refine r_iastore (pc := 203) dX12_vote_203 g40 g41 ?_
      refine r_aload_n (pc := 204) dX12_vote_204 rfl 0 rfl ?_
      obtain ⟨a43, ha43, h⟩ := ob h
      refine r_getS (pc := 205) dX12_vote_205 fgX12_189 rfl g18 ha43 ?_
      refine r_iload_n (pc := 208) dX12_vote_208 rfl 2 rfl ?_
      refine r_iconst (pc := 209) dX12_vote_209 kc_iconst_0 ?_
      obtain ⟨g44, h⟩ := gd h
      obtain ⟨g45, h⟩ := gd h
      refine r_iastore (pc := 210) dX12_vote_210 g44 g45 ?_
      refine r_iinc (pc := 211) (v := (x2 + (3 : Int32))) (L' := [(2, vI (x2 + (3 : Int32))), (0, vR (some t)), (1, vI x1), (4, vI x4), (5, vI x5)]) dX12_vote_211 2 rfl (kc_inc_3 _) (by decide) rfl ?_
      refine r_goto (pc := 214) (tgt := 12) dX12_vote_214 rfl ?_
      refine r_sub [1, 2, 0] rfl ?_
      exact hq12 _ _ _ _ h
  · have h := ie h c
    refine r_iconst (pc := 182) dX12_vote_182 kc_iconst_2 ?_
    refine r_goto (pc := 183) (tgt := 196) dX12_vote_183 rfl ?_
    obtain ⟨g48, h⟩ := gd h
    obtain ⟨g49, h⟩ := gd h
    refine r_iastore (pc := 196) dX12_vote_196 g48 g49 ?_
    refine r_aload_n (pc := 197) dX12_vote_197 rfl 0 rfl ?_
    obtain ⟨a51, ha51, h⟩ := ob h
    refine r_getS (pc := 198) dX12_vote_198 fgX12_186 rfl g18 ha51 ?_
    refine r_iload_n (pc := 201) dX12_vote_201 rfl 2 rfl ?_
    refine r_iconst (pc := 202) dX12_vote_202 kc_iconst_0 ?_
    obtain ⟨g52, h⟩ := gd h
    obtain ⟨g53, h⟩ := gd h
    refine r_iastore (pc := 203) dX12_vote_203 g52 g53 ?_
    refine r_aload_n (pc := 204) dX12_vote_204 rfl 0 rfl ?_
    obtain ⟨a55, ha55, h⟩ := ob h
    refine r_getS (pc := 205) dX12_vote_205 fgX12_189 rfl g18 ha55 ?_
    refine r_iload_n (pc := 208) dX12_vote_208 rfl 2 rfl ?_
    refine r_iconst (pc := 209) dX12_vote_209 kc_iconst_0 ?_
    obtain ⟨g56, h⟩ := gd h
    obtain ⟨g57, h⟩ := gd h
    refine r_iastore (pc := 210) dX12_vote_210 g56 g57 ?_
    refine r_iinc (pc := 211) (v := (x2 + (3 : Int32))) (L' := [(2, vI (x2 + (3 : Int32))), (0, vR (some t)), (1, vI x1), (4, vI x4), (5, vI x5)]) dX12_vote_211 2 rfl (kc_inc_3 _) (by decide) rfl ?_
    refine r_goto (pc := 214) (tgt := 12) dX12_vote_214 rfl ?_
    refine r_sub [1, 2, 0] rfl ?_
    exact hq12 _ _ _ _ h
def fX12_vote_b121 (q12 : (Nat → Nat → Int32) → (Nat → Nat → Int64) → (Int32) → (Int32) → (Option ((Nat → Nat → Int32) × (Nat → Nat → Int64)))) (σ : Shp) (D : Nat → Nat → UInt64) (R : Nat → Nat → Option Nat) (t : Nat) (I : Nat → Nat → Int32) (J : Nat → Nat → Int64) (x1 : Int32) (x2 : Int32) (x4 : Int32) (s0 : Int32) : Option ((Nat → Nat → Int32) × (Nat → Nat → Int64)) :=
  if s0 = 0 then
    if kdx σ t = 13 then
    ((R t 88) : Option Nat).bind fun a62 =>
    if kdx σ a62 = 24 then
    if ¬ (x2 < 0 ∨ lnx σ a62 ≤ Int32.toNatClampNeg x2) then
    if (I a62 (Int32.toNatClampNeg x2)) = 0 then
      if s0 = 0 then
        if (0 : Int32) = 0 then
          let v65 := x2 + (3 : Int32)
          q12 I J x1 v65
        else
          fX12_vote_b164 q12 σ D R t I J x1 x2 x4 s0
      else
        fX12_vote_b164 q12 σ D R t I J x1 x2 x4 s0
    else
      ((R t 91) : Option Nat).bind fun a66 =>
      if kdx σ a66 = 20 then
      if ¬ (x2 < 0 ∨ lnx σ a66 ≤ Int32.toNatClampNeg x2) then
      if (I a66 (Int32.toNatClampNeg x2)) < (5 : Int32) then
        if s0 = 0 then
          if (0 : Int32) = 0 then
            let v69 := x2 + (3 : Int32)
            q12 I J x1 v69
          else
            fX12_vote_b164 q12 σ D R t I J x1 x2 x4 s0
        else
          fX12_vote_b164 q12 σ D R t I J x1 x2 x4 s0
      else
        if s0 = 0 then
          if (1 : Int32) = 0 then
            let v70 := x2 + (3 : Int32)
            q12 I J x1 v70
          else
            fX12_vote_b164 q12 σ D R t I J x1 x2 x4 s0
        else
          fX12_vote_b164 q12 σ D R t I J x1 x2 x4 s0
      else none
      else none
    else none
    else none
    else none
  else
    if s0 = 0 then
      if (0 : Int32) = 0 then
        let v60 := x2 + (3 : Int32)
        q12 I J x1 v60
      else
        fX12_vote_b164 q12 σ D R t I J x1 x2 x4 s0
    else
      fX12_vote_b164 q12 σ D R t I J x1 x2 x4 s0
theorem wX12_vote_b121 {G : Gx} {l : Launch} {σ : Shp} {I : Nat → Nat → Int32} {J : Nat → Nat → Int64} {D : Nat → Nat → UInt64} {R : Nat → Nat → Option Nat} {t : Nat} {I9 : Nat → Nat → Int32} {J9 : Nat → Nat → Int64} {q12 : (Nat → Nat → Int32) → (Nat → Nat → Int64) → (Int32) → (Int32) → (Option ((Nat → Nat → Int32) × (Nat → Nat → Int64)))} {x1 : Int32} {x2 : Int32} {x4 : Int32} {s0 : Int32} (hq12 : ∀ (I : Nat → Nat → Int32) (J : Nat → Nat → Int64) (x1 : Int32) (x2 : Int32), q12 I J x1 x2 = some (I9, J9) → WX12_vote G l σ (σ, I9, J9, D, R) none (σ, I, J, D, R) 12 [(0, vR (some t)), (1, vI x1), (2, vI x2)] []) (h : fX12_vote_b121 q12 σ D R t I J x1 x2 x4 s0 = some (I9, J9)) : WX12_vote G l σ (σ, I9, J9, D, R) none (σ, I, J, D, R) 121 [(0, vR (some t)), (1, vI x1), (2, vI x2), (4, vI x4)] [vI s0] := by
  unfold fX12_vote_b121 at h
  refine r_istore (pc := 121) (L' := [(5, vI s0), (0, vR (some t)), (1, vI x1), (2, vI x2), (4, vI x4)]) dX12_vote_121 (by decide) rfl ?_
  refine r_iload (pc := 123) dX12_vote_123 0 rfl ?_
  refine r_ifne (pc := 125) (tgt := 151) dX12_vote_125 rfl (fun c => ?_) (fun c => ?_)
  · have h := ie h c
    refine r_iconst (pc := 151) dX12_vote_151 kc_iconst_0 ?_
    refine r_istore (pc := 152) (L' := [(6, vI (0 : Int32)), (5, vI s0), (0, vR (some t)), (1, vI x1), (2, vI x2), (4, vI x4)]) dX12_vote_152 (by decide) rfl ?_
    refine r_iload (pc := 154) dX12_vote_154 1 rfl ?_
    refine r_ifne (pc := 156) (tgt := 164) dX12_vote_156 rfl (fun c => ?_) (fun c => ?_)
    · have h := ie h c
      refine r_sub [2, 3, 4, 5, 1] rfl ?_
      exact wX12_vote_b164 hq12 h
    · have h := it h c
      refine r_iload (pc := 159) dX12_vote_159 0 rfl ?_
      refine r_if_eq (pc := 161) (tgt := 211) dX12_vote_161 rfl (fun c => ?_) (fun c => ?_)
      · have h := it h c
        refine r_iinc (pc := 211) (v := (x2 + (3 : Int32))) (L' := [(2, vI (x2 + (3 : Int32))), (6, vI (0 : Int32)), (5, vI s0), (0, vR (some t)), (1, vI x1), (4, vI x4)]) dX12_vote_211 4 rfl (kc_inc_3 _) (by decide) rfl ?_
        refine r_goto (pc := 214) (tgt := 12) dX12_vote_214 rfl ?_
        refine r_sub [3, 4, 0] rfl ?_
        exact hq12 _ _ _ _ h
      · have h := ie h c
        refine r_sub [2, 3, 4, 5, 1] rfl ?_
        exact wX12_vote_b164 hq12 h
  · have h := it h c
    refine r_aload_n (pc := 128) dX12_vote_128 rfl 1 rfl ?_
    obtain ⟨g61, h⟩ := gd h
    obtain ⟨a62, ha62, h⟩ := ob h
    refine r_getS (pc := 129) dX12_vote_129 fgX12_180 rfl g61 ha62 ?_
    refine r_iload_n (pc := 132) dX12_vote_132 rfl 3 rfl ?_
    obtain ⟨g63, h⟩ := gd h
    obtain ⟨g64, h⟩ := gd h
    refine r_zaload (pc := 133) dX12_vote_133 g63 g64 ?_
    refine r_if_eq (pc := 134) (tgt := 151) dX12_vote_134 rfl (fun c => ?_) (fun c => ?_)
    · have h := it h c
      refine r_iconst (pc := 151) dX12_vote_151 kc_iconst_0 ?_
      refine r_istore (pc := 152) (L' := [(6, vI (0 : Int32)), (5, vI s0), (0, vR (some t)), (1, vI x1), (2, vI x2), (4, vI x4)]) dX12_vote_152 (by decide) rfl ?_
      refine r_iload (pc := 154) dX12_vote_154 1 rfl ?_
      refine r_ifne (pc := 156) (tgt := 164) dX12_vote_156 rfl (fun c => ?_) (fun c => ?_)
      · have h := ie h c
        refine r_sub [2, 3, 4, 5, 1] rfl ?_
        exact wX12_vote_b164 hq12 h
      · have h := it h c
        refine r_iload (pc := 159) dX12_vote_159 0 rfl ?_
        refine r_if_eq (pc := 161) (tgt := 211) dX12_vote_161 rfl (fun c => ?_) (fun c => ?_)
        · have h := it h c
          refine r_iinc (pc := 211) (v := (x2 + (3 : Int32))) (L' := [(2, vI (x2 + (3 : Int32))), (6, vI (0 : Int32)), (5, vI s0), (0, vR (some t)), (1, vI x1), (4, vI x4)]) dX12_vote_211 4 rfl (kc_inc_3 _) (by decide) rfl ?_
          refine r_goto (pc := 214) (tgt := 12) dX12_vote_214 rfl ?_
          refine r_sub [3, 4, 0] rfl ?_
          exact hq12 _ _ _ _ h
        · have h := ie h c
          refine r_sub [2, 3, 4, 5, 1] rfl ?_
          exact wX12_vote_b164 hq12 h
    · have h := ie h c
      refine r_aload_n (pc := 137) dX12_vote_137 rfl 1 rfl ?_
      obtain ⟨a66, ha66, h⟩ := ob h
      refine r_getS (pc := 138) dX12_vote_138 fgX12_189 rfl g61 ha66 ?_
      refine r_iload_n (pc := 141) dX12_vote_141 rfl 3 rfl ?_
      obtain ⟨g67, h⟩ := gd h
      obtain ⟨g68, h⟩ := gd h
      refine r_iaload (pc := 142) dX12_vote_142 g67 g68 ?_
      refine r_iconst (pc := 143) dX12_vote_143 kc_iconst_5 ?_
      refine r_icmp_lt (pc := 144) (tgt := 151) dX12_vote_144 rfl (fun c => ?_) (fun c => ?_)
      · have h := it h c
        refine r_iconst (pc := 151) dX12_vote_151 kc_iconst_0 ?_
        refine r_istore (pc := 152) (L' := [(6, vI (0 : Int32)), (5, vI s0), (0, vR (some t)), (1, vI x1), (2, vI x2), (4, vI x4)]) dX12_vote_152 (by decide) rfl ?_
        refine r_iload (pc := 154) dX12_vote_154 1 rfl ?_
        refine r_ifne (pc := 156) (tgt := 164) dX12_vote_156 rfl (fun c => ?_) (fun c => ?_)
        · have h := ie h c
          refine r_sub [2, 3, 4, 5, 1] rfl ?_
          exact wX12_vote_b164 hq12 h
        · have h := it h c
          refine r_iload (pc := 159) dX12_vote_159 0 rfl ?_
          refine r_if_eq (pc := 161) (tgt := 211) dX12_vote_161 rfl (fun c => ?_) (fun c => ?_)
          · have h := it h c
            refine r_iinc (pc := 211) (v := (x2 + (3 : Int32))) (L' := [(2, vI (x2 + (3 : Int32))), (6, vI (0 : Int32)), (5, vI s0), (0, vR (some t)), (1, vI x1), (4, vI x4)]) dX12_vote_211 4 rfl (kc_inc_3 _) (by decide) rfl ?_
            refine r_goto (pc := 214) (tgt := 12) dX12_vote_214 rfl ?_
            refine r_sub [3, 4, 0] rfl ?_
            exact hq12 _ _ _ _ h
          · have h := ie h c
            refine r_sub [2, 3, 4, 5, 1] rfl ?_
            exact wX12_vote_b164 hq12 h
      · have h := ie h c
        refine r_iconst (pc := 147) dX12_vote_147 kc_iconst_1 ?_
        refine r_goto (pc := 148) (tgt := 152) dX12_vote_148 rfl ?_
        refine r_istore (pc := 152) (L' := [(6, vI (1 : Int32)), (5, vI s0), (0, vR (some t)), (1, vI x1), (2, vI x2), (4, vI x4)]) dX12_vote_152 (by decide) rfl ?_
        refine r_iload (pc := 154) dX12_vote_154 1 rfl ?_
        refine r_ifne (pc := 156) (tgt := 164) dX12_vote_156 rfl (fun c => ?_) (fun c => ?_)
        · have h := ie h c
          refine r_sub [2, 3, 4, 5, 1] rfl ?_
          exact wX12_vote_b164 hq12 h
        · have h := it h c
          refine r_iload (pc := 159) dX12_vote_159 0 rfl ?_
          refine r_if_eq (pc := 161) (tgt := 211) dX12_vote_161 rfl (fun c => ?_) (fun c => ?_)
          · have h := it h c
            refine r_iinc (pc := 211) (v := (x2 + (3 : Int32))) (L' := [(2, vI (x2 + (3 : Int32))), (6, vI (1 : Int32)), (5, vI s0), (0, vR (some t)), (1, vI x1), (4, vI x4)]) dX12_vote_211 4 rfl (kc_inc_3 _) (by decide) rfl ?_
            refine r_goto (pc := 214) (tgt := 12) dX12_vote_214 rfl ?_
            refine r_sub [3, 4, 0] rfl ?_
            exact hq12 _ _ _ _ h
          · have h := ie h c
            refine r_sub [2, 3, 4, 5, 1] rfl ?_
            exact wX12_vote_b164 hq12 h
def fX12_vote_b90 (q12 : (Nat → Nat → Int32) → (Nat → Nat → Int64) → (Int32) → (Int32) → (Option ((Nat → Nat → Int32) × (Nat → Nat → Int64)))) (σ : Shp) (D : Nat → Nat → UInt64) (R : Nat → Nat → Option Nat) (t : Nat) (I : Nat → Nat → Int32) (J : Nat → Nat → Int64) (x1 : Int32) (x2 : Int32) (s0 : Int32) : Option ((Nat → Nat → Int32) × (Nat → Nat → Int64)) :=
  if s0 = 0 then
    if kdx σ t = 13 then
    ((R t 88) : Option Nat).bind fun a72 =>
    if kdx σ a72 = 24 then
    if ¬ (x2 < 0 ∨ lnx σ a72 ≤ Int32.toNatClampNeg x2) then
    if (I a72 (Int32.toNatClampNeg x2)) = 0 then
      ((R t 90) : Option Nat).bind fun a75 =>
      if kdx σ a75 = 20 then
      if ¬ (x2 < 0 ∨ lnx σ a75 ≤ Int32.toNatClampNeg x2) then
      if (I a75 (Int32.toNatClampNeg x2)) < (3 : Int32) then
        fX12_vote_b121 q12 σ D R t I J x1 x2 s0 (0 : Int32)
      else
        fX12_vote_b121 q12 σ D R t I J x1 x2 s0 (1 : Int32)
      else none
      else none
    else
      fX12_vote_b121 q12 σ D R t I J x1 x2 s0 (0 : Int32)
    else none
    else none
    else none
  else
    fX12_vote_b121 q12 σ D R t I J x1 x2 s0 (1 : Int32)
theorem wX12_vote_b90 {G : Gx} {l : Launch} {σ : Shp} {I : Nat → Nat → Int32} {J : Nat → Nat → Int64} {D : Nat → Nat → UInt64} {R : Nat → Nat → Option Nat} {t : Nat} {I9 : Nat → Nat → Int32} {J9 : Nat → Nat → Int64} {q12 : (Nat → Nat → Int32) → (Nat → Nat → Int64) → (Int32) → (Int32) → (Option ((Nat → Nat → Int32) × (Nat → Nat → Int64)))} {x1 : Int32} {x2 : Int32} {s0 : Int32} (hq12 : ∀ (I : Nat → Nat → Int32) (J : Nat → Nat → Int64) (x1 : Int32) (x2 : Int32), q12 I J x1 x2 = some (I9, J9) → WX12_vote G l σ (σ, I9, J9, D, R) none (σ, I, J, D, R) 12 [(0, vR (some t)), (1, vI x1), (2, vI x2)] []) (h : fX12_vote_b90 q12 σ D R t I J x1 x2 s0 = some (I9, J9)) : WX12_vote G l σ (σ, I9, J9, D, R) none (σ, I, J, D, R) 90 [(0, vR (some t)), (1, vI x1), (2, vI x2)] [vI s0] := by
  unfold fX12_vote_b90 at h
  refine r_istore (pc := 90) (L' := [(4, vI s0), (0, vR (some t)), (1, vI x1), (2, vI x2)]) dX12_vote_90 (by decide) rfl ?_
  refine r_iload (pc := 92) dX12_vote_92 0 rfl ?_
  refine r_ifne (pc := 94) (tgt := 116) dX12_vote_94 rfl (fun c => ?_) (fun c => ?_)
  · have h := ie h c
    refine r_iconst (pc := 116) dX12_vote_116 kc_iconst_1 ?_
    refine r_goto (pc := 117) (tgt := 121) dX12_vote_117 rfl ?_
    refine r_sub [1, 2, 3, 0] rfl ?_
    exact wX12_vote_b121 hq12 h
  · have h := it h c
    refine r_aload_n (pc := 97) dX12_vote_97 rfl 1 rfl ?_
    obtain ⟨g71, h⟩ := gd h
    obtain ⟨a72, ha72, h⟩ := ob h
    refine r_getS (pc := 98) dX12_vote_98 fgX12_180 rfl g71 ha72 ?_
    refine r_iload_n (pc := 101) dX12_vote_101 rfl 3 rfl ?_
    obtain ⟨g73, h⟩ := gd h
    obtain ⟨g74, h⟩ := gd h
    refine r_zaload (pc := 102) dX12_vote_102 g73 g74 ?_
    refine r_ifne (pc := 103) (tgt := 120) dX12_vote_103 rfl (fun c => ?_) (fun c => ?_)
    · have h := ie h c
      refine r_iconst (pc := 120) dX12_vote_120 kc_iconst_0 ?_
      refine r_sub [1, 2, 3, 0] rfl ?_
      exact wX12_vote_b121 hq12 h
    · have h := it h c
      refine r_aload_n (pc := 106) dX12_vote_106 rfl 1 rfl ?_
      obtain ⟨a75, ha75, h⟩ := ob h
      refine r_getS (pc := 107) dX12_vote_107 fgX12_186 rfl g71 ha75 ?_
      refine r_iload_n (pc := 110) dX12_vote_110 rfl 3 rfl ?_
      obtain ⟨g76, h⟩ := gd h
      obtain ⟨g77, h⟩ := gd h
      refine r_iaload (pc := 111) dX12_vote_111 g76 g77 ?_
      refine r_iconst (pc := 112) dX12_vote_112 kc_iconst_3 ?_
      refine r_icmp_lt (pc := 113) (tgt := 120) dX12_vote_113 rfl (fun c => ?_) (fun c => ?_)
      · have h := it h c
        refine r_iconst (pc := 120) dX12_vote_120 kc_iconst_0 ?_
        refine r_sub [1, 2, 3, 0] rfl ?_
        exact wX12_vote_b121 hq12 h
      · have h := ie h c
        refine r_iconst (pc := 116) dX12_vote_116 kc_iconst_1 ?_
        refine r_goto (pc := 117) (tgt := 121) dX12_vote_117 rfl ?_
        refine r_sub [1, 2, 3, 0] rfl ?_
        exact wX12_vote_b121 hq12 h
def fX12_vote_l23 (q12 : (Nat → Nat → Int32) → (Nat → Nat → Int64) → (Int32) → (Int32) → (Option ((Nat → Nat → Int32) × (Nat → Nat → Int64)))) (σ : Shp) (D : Nat → Nat → UInt64) (R : Nat → Nat → Option Nat) (t : Nat) : Nat → (Nat → Nat → Int32) → (Nat → Nat → Int64) → (Int32) → (Int32) → (Int32) → (Int32) → Option ((Nat → Nat → Int32) × (Nat → Nat → Int64))
  | 0, _, _, _, _, _, _ => none
  | n + 1, I, J, x1, x2, x3, x4 =>
    if (9 : Int32) ≤ x4 then
      if kdx σ t = 13 then
      (fX12_reads σ J R t x2).bind fun r16 =>
      if r16 = 0 then
        fX12_vote_b90 q12 σ D R t I J x1 x2 (0 : Int32)
      else
        ((R t 92) : Option Nat).bind fun a78 =>
        if kdx σ a78 = 20 then
        if ¬ (x2 < 0 ∨ lnx σ a78 ≤ Int32.toNatClampNeg x2) then
        if (I a78 (Int32.toNatClampNeg x2)) < (8 : Int32) then
          fX12_vote_b90 q12 σ D R t I J x1 x2 (0 : Int32)
        else
          if x3 = 0 then
            fX12_vote_b90 q12 σ D R t I J x1 x2 (0 : Int32)
          else
            fX12_vote_b90 q12 σ D R t I J x1 x2 (1 : Int32)
        else none
        else none
      else none
    else
      if x3 = 0 then
        if x4 = x2 then
          let v82 := x4 + (3 : Int32)
          fX12_vote_l23 q12 σ D R t n I J x1 x2 (0 : Int32) v82
        else
          if kdx σ t = 13 then
          ((R t 93) : Option Nat).bind fun a84 =>
          if kdx σ a84 = 24 then
          if ¬ (x4 < 0 ∨ lnx σ a84 ≤ Int32.toNatClampNeg x4) then
          if (I a84 (Int32.toNatClampNeg x4)) = 0 then
            let v87 := x4 + (3 : Int32)
            fX12_vote_l23 q12 σ D R t n I J x1 x2 (0 : Int32) v87
          else
            let v88 := x4 + (3 : Int32)
            fX12_vote_l23 q12 σ D R t n I J x1 x2 (1 : Int32) v88
          else none
          else none
          else none
      else
        let v81 := x4 + (3 : Int32)
        fX12_vote_l23 q12 σ D R t n I J x1 x2 (1 : Int32) v81
theorem wX12_vote_l23 {G : Gx} {l : Launch} {σ : Shp} {D : Nat → Nat → UInt64} {R : Nat → Nat → Option Nat} {t : Nat} {I9 : Nat → Nat → Int32} {J9 : Nat → Nat → Int64} {q12 : (Nat → Nat → Int32) → (Nat → Nat → Int64) → (Int32) → (Int32) → (Option ((Nat → Nat → Int32) × (Nat → Nat → Int64)))} (hq12 : ∀ (I : Nat → Nat → Int32) (J : Nat → Nat → Int64) (x1 : Int32) (x2 : Int32), q12 I J x1 x2 = some (I9, J9) → WX12_vote G l σ (σ, I9, J9, D, R) none (σ, I, J, D, R) 12 [(0, vR (some t)), (1, vI x1), (2, vI x2)] []) : ∀ (n : Nat) (I : Nat → Nat → Int32) (J : Nat → Nat → Int64) (x1 : Int32) (x2 : Int32) (x3 : Int32) (x4 : Int32), fX12_vote_l23 q12 σ D R t n I J x1 x2 x3 x4 = some (I9, J9) → WX12_vote G l σ (σ, I9, J9, D, R) none (σ, I, J, D, R) 23 [(0, vR (some t)), (1, vI x1), (2, vI x2), (3, vI x3), (4, vI x4)] [] := by
  intro n
  induction n with
  | zero =>
    intro I J x1 x2 x3 x4 h
    have h : none = some _ := h
    cases h
  | succ n ih =>
    intro I J x1 x2 x3 x4 h
    rw [fX12_vote_l23] at h
    refine r_iload (pc := 23) dX12_vote_23 4 rfl ?_
    refine r_bipush (pc := 25) dX12_vote_25 kc_bipush_9 ?_
    refine r_icmp_ge (pc := 27) (tgt := 62) dX12_vote_27 rfl (fun c => ?_) (fun c => ?_)
    · have h := it h c
      refine r_aload_n (pc := 62) dX12_vote_62 rfl 0 rfl ?_
      refine r_iload_n (pc := 63) dX12_vote_63 rfl 2 rfl ?_
      obtain ⟨g15, h⟩ := gd h
      obtain ⟨r16, hc17, h⟩ := ob h
      refine r_callV1 (pc := 64) (av := [vI x2]) (S := []) dX12_vote_64 (kX12_reads hc17) g15 rfl mkX12_636 mwX12_reads rfl ⟨Nat.le_of_ble_eq_true rfl, Nat.le_of_ble_eq_true rfl⟩ (Nat.le_of_ble_eq_true rfl) ⟨Nat.le_refl _, Nat.le_refl _⟩ (fun b => b) ?_
      refine r_if_eq (pc := 67) (tgt := 89) dX12_vote_67 rfl (fun c => ?_) (fun c => ?_)
      · have h := it h c
        refine r_iconst (pc := 89) dX12_vote_89 kc_iconst_0 ?_
        refine r_sub [0, 1, 2] rfl ?_
        exact wX12_vote_b90 hq12 h
      · have h := ie h c
        refine r_aload_n (pc := 70) dX12_vote_70 rfl 0 rfl ?_
        obtain ⟨a78, ha78, h⟩ := ob h
        refine r_getS (pc := 71) dX12_vote_71 fgX12_192 rfl g15 ha78 ?_
        refine r_iload_n (pc := 74) dX12_vote_74 rfl 2 rfl ?_
        obtain ⟨g79, h⟩ := gd h
        obtain ⟨g80, h⟩ := gd h
        refine r_iaload (pc := 75) dX12_vote_75 g79 g80 ?_
        refine r_bipush (pc := 76) dX12_vote_76 kc_bipush_8 ?_
        refine r_icmp_lt (pc := 78) (tgt := 89) dX12_vote_78 rfl (fun c => ?_) (fun c => ?_)
        · have h := it h c
          refine r_iconst (pc := 89) dX12_vote_89 kc_iconst_0 ?_
          refine r_sub [0, 1, 2] rfl ?_
          exact wX12_vote_b90 hq12 h
        · have h := ie h c
          refine r_iload_n (pc := 81) dX12_vote_81 rfl 3 rfl ?_
          refine r_if_eq (pc := 82) (tgt := 89) dX12_vote_82 rfl (fun c => ?_) (fun c => ?_)
          · have h := it h c
            refine r_iconst (pc := 89) dX12_vote_89 kc_iconst_0 ?_
            refine r_sub [0, 1, 2] rfl ?_
            exact wX12_vote_b90 hq12 h
          · have h := ie h c
            refine r_iconst (pc := 85) dX12_vote_85 kc_iconst_1 ?_
            refine r_goto (pc := 86) (tgt := 90) dX12_vote_86 rfl ?_
            refine r_sub [0, 1, 2] rfl ?_
            exact wX12_vote_b90 hq12 h
    · have h := ie h c
      refine r_iload_n (pc := 30) dX12_vote_30 rfl 3 rfl ?_
      refine r_ifne (pc := 31) (tgt := 50) dX12_vote_31 rfl (fun c => ?_) (fun c => ?_)
      · have h := ie h c
        refine r_iconst (pc := 50) dX12_vote_50 kc_iconst_1 ?_
        refine r_goto (pc := 51) (tgt := 55) dX12_vote_51 rfl ?_
        refine r_istore_n (pc := 55) (L' := [(3, vI (1 : Int32)), (0, vR (some t)), (1, vI x1), (2, vI x2), (4, vI x4)]) dX12_vote_55 rfl (by decide) rfl ?_
        refine r_iinc (pc := 56) (v := (x4 + (3 : Int32))) (L' := [(4, vI (x4 + (3 : Int32))), (3, vI (1 : Int32)), (0, vR (some t)), (1, vI x1), (2, vI x2)]) dX12_vote_56 4 rfl (kc_inc_3 _) (by decide) rfl ?_
        refine r_goto (pc := 59) (tgt := 23) dX12_vote_59 rfl ?_
        refine r_sub [2, 3, 4, 1, 0] rfl ?_
        exact ih _ _ _ _ _ _ h
      · have h := it h c
        refine r_iload (pc := 34) dX12_vote_34 4 rfl ?_
        refine r_iload_n (pc := 36) dX12_vote_36 rfl 2 rfl ?_
        refine r_icmp_eq (pc := 37) (tgt := 54) dX12_vote_37 rfl (fun c => ?_) (fun c => ?_)
        · have h := it h c
          refine r_iconst (pc := 54) dX12_vote_54 kc_iconst_0 ?_
          refine r_istore_n (pc := 55) (L' := [(3, vI (0 : Int32)), (0, vR (some t)), (1, vI x1), (2, vI x2), (4, vI x4)]) dX12_vote_55 rfl (by decide) rfl ?_
          refine r_iinc (pc := 56) (v := (x4 + (3 : Int32))) (L' := [(4, vI (x4 + (3 : Int32))), (3, vI (0 : Int32)), (0, vR (some t)), (1, vI x1), (2, vI x2)]) dX12_vote_56 4 rfl (kc_inc_3 _) (by decide) rfl ?_
          refine r_goto (pc := 59) (tgt := 23) dX12_vote_59 rfl ?_
          refine r_sub [2, 3, 4, 1, 0] rfl ?_
          exact ih _ _ _ _ _ _ h
        · have h := ie h c
          refine r_aload_n (pc := 40) dX12_vote_40 rfl 0 rfl ?_
          obtain ⟨g83, h⟩ := gd h
          obtain ⟨a84, ha84, h⟩ := ob h
          refine r_getS (pc := 41) dX12_vote_41 fgX12_195 rfl g83 ha84 ?_
          refine r_iload (pc := 44) dX12_vote_44 4 rfl ?_
          obtain ⟨g85, h⟩ := gd h
          obtain ⟨g86, h⟩ := gd h
          refine r_zaload (pc := 46) dX12_vote_46 g85 g86 ?_
          refine r_if_eq (pc := 47) (tgt := 54) dX12_vote_47 rfl (fun c => ?_) (fun c => ?_)
          · have h := it h c
            refine r_iconst (pc := 54) dX12_vote_54 kc_iconst_0 ?_
            refine r_istore_n (pc := 55) (L' := [(3, vI (0 : Int32)), (0, vR (some t)), (1, vI x1), (2, vI x2), (4, vI x4)]) dX12_vote_55 rfl (by decide) rfl ?_
            refine r_iinc (pc := 56) (v := (x4 + (3 : Int32))) (L' := [(4, vI (x4 + (3 : Int32))), (3, vI (0 : Int32)), (0, vR (some t)), (1, vI x1), (2, vI x2)]) dX12_vote_56 4 rfl (kc_inc_3 _) (by decide) rfl ?_
            refine r_goto (pc := 59) (tgt := 23) dX12_vote_59 rfl ?_
            refine r_sub [2, 3, 4, 1, 0] rfl ?_
            exact ih _ _ _ _ _ _ h
          · have h := ie h c
            refine r_iconst (pc := 50) dX12_vote_50 kc_iconst_1 ?_
            refine r_goto (pc := 51) (tgt := 55) dX12_vote_51 rfl ?_
            refine r_istore_n (pc := 55) (L' := [(3, vI (1 : Int32)), (0, vR (some t)), (1, vI x1), (2, vI x2), (4, vI x4)]) dX12_vote_55 rfl (by decide) rfl ?_
            refine r_iinc (pc := 56) (v := (x4 + (3 : Int32))) (L' := [(4, vI (x4 + (3 : Int32))), (3, vI (1 : Int32)), (0, vR (some t)), (1, vI x1), (2, vI x2)]) dX12_vote_56 4 rfl (kc_inc_3 _) (by decide) rfl ?_
            refine r_goto (pc := 59) (tgt := 23) dX12_vote_59 rfl ?_
            refine r_sub [2, 3, 4, 1, 0] rfl ?_
            exact ih _ _ _ _ _ _ h
def fX12_vote_l12  (σ : Shp) (D : Nat → Nat → UInt64) (R : Nat → Nat → Option Nat) (t : Nat) : Nat → (Nat → Nat → Int32) → (Nat → Nat → Int64) → (Int32) → (Int32) → Option ((Nat → Nat → Int32) × (Nat → Nat → Int64))
  | 0, _, _, _, _ => none
  | n + 1, I, J, x1, x2 =>
    if (9 : Int32) ≤ x2 then
      fX12_vote_l219 σ D R t FUx I J x1
    else
      fX12_vote_l23 (fX12_vote_l12 σ D R t n) σ D R t FUx I J x1 x2 (0 : Int32) x1
theorem wX12_vote_l12 {G : Gx} {l : Launch} {σ : Shp} {D : Nat → Nat → UInt64} {R : Nat → Nat → Option Nat} {t : Nat} {I9 : Nat → Nat → Int32} {J9 : Nat → Nat → Int64} : ∀ (n : Nat) (I : Nat → Nat → Int32) (J : Nat → Nat → Int64) (x1 : Int32) (x2 : Int32), fX12_vote_l12 σ D R t n I J x1 x2 = some (I9, J9) → WX12_vote G l σ (σ, I9, J9, D, R) none (σ, I, J, D, R) 12 [(0, vR (some t)), (1, vI x1), (2, vI x2)] [] := by
  intro n
  induction n with
  | zero =>
    intro I J x1 x2 h
    have h : none = some _ := h
    cases h
  | succ n ih =>
    intro I J x1 x2 h
    rw [fX12_vote_l12] at h
    refine r_iload_n (pc := 12) dX12_vote_12 rfl 2 rfl ?_
    refine r_bipush (pc := 13) dX12_vote_13 kc_bipush_9 ?_
    refine r_icmp_ge (pc := 15) (tgt := 217) dX12_vote_15 rfl (fun c => ?_) (fun c => ?_)
    · have h := it h c
      refine r_iload_n (pc := 217) dX12_vote_217 rfl 1 rfl ?_
      refine r_istore_n (pc := 218) (L' := [(2, vI x1), (0, vR (some t)), (1, vI x1)]) dX12_vote_218 rfl (by decide) rfl ?_
      refine r_sub [1, 0] rfl ?_
      exact wX12_vote_l219 _ _ _ _ h
    · have h := ie h c
      refine r_iconst (pc := 18) dX12_vote_18 kc_iconst_0 ?_
      refine r_istore_n (pc := 19) (L' := [(3, vI (0 : Int32)), (0, vR (some t)), (1, vI x1), (2, vI x2)]) dX12_vote_19 rfl (by decide) rfl ?_
      refine r_iload_n (pc := 20) dX12_vote_20 rfl 2 rfl ?_
      refine r_istore (pc := 21) (L' := [(4, vI x1), (3, vI (0 : Int32)), (0, vR (some t)), (1, vI x1), (2, vI x2)]) dX12_vote_21 (by decide) rfl ?_
      refine r_sub [2, 3, 4, 1, 0] rfl ?_
      exact wX12_vote_l23 ih _ _ _ _ _ _ _ h
def fX12_vote (σ : Shp) (I : Nat → Nat → Int32) (J : Nat → Nat → Int64) (D : Nat → Nat → UInt64) (R : Nat → Nat → Option Nat) (t : Nat) (x1 : Int32) : Option ((Nat → Nat → Int32) × (Nat → Nat → Int64)) :=
  if kdx σ t = 13 then
  (fX12_find σ I J R t x1).bind fun J2 =>
  (fX12_countIn σ I J2 D R t x1).bind fun I4 =>
  fX12_vote_l12 σ D R t FUx I4 J2 x1 x1
  else none
theorem kX12_vote {G : Gx} {l : Launch} {σ : Shp} {I : Nat → Nat → Int32} {J : Nat → Nat → Int64} {D : Nat → Nat → UInt64} {R : Nat → Nat → Option Nat} {t : Nat} {x1 : Int32} {I9 : Nat → Nat → Int32} {J9 : Nat → Nat → Int64} (h : fX12_vote σ I J D R t x1 = some (I9, J9)) : Con G l yX12_vote cX12_vote 7 none 5 128 [vR (some t), vI x1] (σ, I, J, D, R) (σ, I9, J9, D, R) none := by
  unfold fX12_vote at h
  refine Con.mk (by decide +kernel) rfl (Nat.le_of_ble_eq_true rfl) ?_
  show WX12_vote G l σ (σ, I9, J9, D, R) none (σ, I, J, D, R) 0 _ []
  refine r_aload_n (pc := 0) dX12_vote_0 rfl 0 rfl ?_
  refine r_iload_n (pc := 1) dX12_vote_1 rfl 1 rfl ?_
  obtain ⟨g1, h⟩ := gd h
  obtain ⟨J2, hc3, h⟩ := ob h
  refine r_callV0 (pc := 2) (av := [vI x1]) (S := []) dX12_vote_2 (kX12_find hc3) g1 rfl mkX12_649 mwX12_find rfl ⟨Nat.le_of_ble_eq_true rfl, Nat.le_of_ble_eq_true rfl⟩ (Nat.le_of_ble_eq_true rfl) ⟨Nat.le_refl _, Nat.le_refl _⟩ (fun b => b) ?_
  refine r_aload_n (pc := 5) dX12_vote_5 rfl 0 rfl ?_
  refine r_iload_n (pc := 6) dX12_vote_6 rfl 1 rfl ?_
  obtain ⟨I4, hc5, h⟩ := ob h
  refine r_callV0 (pc := 7) (av := [vI x1]) (S := []) dX12_vote_7 (kX12_countIn hc5) g1 rfl mkX12_652 mwX12_countIn rfl ⟨Nat.le_of_ble_eq_true rfl, Nat.le_of_ble_eq_true rfl⟩ (Nat.le_of_ble_eq_true rfl) ⟨Nat.le_refl _, Nat.le_refl _⟩ (fun b => b) ?_
  refine r_iload_n (pc := 10) dX12_vote_10 rfl 1 rfl ?_
  refine r_istore_n (pc := 11) (L' := [(2, vI x1), (0, vR (some t)), (1, vI x1)]) dX12_vote_11 rfl (by decide) rfl ?_
  refine r_sub [1, 2, 0] rfl ?_
  exact wX12_vote_l12 _ _ _ _ _ h
