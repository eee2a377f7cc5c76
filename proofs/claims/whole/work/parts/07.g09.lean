abbrev WX12_weather (G : Gx) (l : Launch) (σ0 : Shp) (X1 : Stt) (rv : Option SV) : Stt → Nat → List (Nat × SV) → List SV → Prop := Wm G l yX12_weather cX12_weather 6 (some .int) (fun _ => True) (rmx 1 22 σ0 X1.1) σ0 (Qmx G σ0 X1 rv)
def fX12_weather_b59  (σ : Shp) (R : Nat → Nat → Option Nat) (t : Nat) (I : Nat → Nat → Int32) (x1 : Int32) (x2 : Int32) (x3 : Int32) (s0 : Int32) : Option ((Nat → Nat → Int32) × (Int32)) :=
  if (fX12_in x2 x3 s0) = 0 then
    some (I, (-100000 : Int32))
  else
    if kdx σ t = 13 then
    ((R t 96) : Option Nat).bind fun a2 =>
    if kdx σ a2 = 20 then
    if ¬ (x1 < 0 ∨ lnx σ a2 ≤ Int32.toNatClampNeg x1) then
    let v5 := (I a2 (Int32.toNatClampNeg x1))
    let I6 := u2 I a2 (Int32.toNatClampNeg x1) x2
    some (I6, v5)
    else none
    else none
    else none
theorem wX12_weather_b59 {G : Gx} {l : Launch} {σ : Shp} {I : Nat → Nat → Int32} {J : Nat → Nat → Int64} {D : Nat → Nat → UInt64} {R : Nat → Nat → Option Nat} {t : Nat} {I9 : Nat → Nat → Int32} {r9 : Int32} {x1 : Int32} {x2 : Int32} {x3 : Int32} {s0 : Int32} (h : fX12_weather_b59 σ R t I x1 x2 x3 s0 = some (I9, r9)) : WX12_weather G l σ (σ, I9, J, D, R) (some (vI r9)) (σ, I, J, D, R) 59 [(0, vR (some t)), (1, vI x1), (2, vI x2), (3, vI x3)] [vI s0] := by
  unfold fX12_weather_b59 at h
  refine r_istore (pc := 59) (L' := [(4, vI s0), (0, vR (some t)), (1, vI x1), (2, vI x2), (3, vI x3)]) dX12_weather_59 (by decide) rfl ?_
  refine r_iload_n (pc := 61) dX12_weather_61 rfl 3 rfl ?_
  refine r_iload_n (pc := 62) dX12_weather_62 rfl 4 rfl ?_
  refine r_iload (pc := 63) dX12_weather_63 0 rfl ?_
  refine r_callS1 (pc := 65) (av := [vI x2, vI x3, vI s0]) (S := []) dX12_weather_65 (kX12_in rfl) mkX12_322 mwX12_in rfl ⟨Nat.le_of_ble_eq_true rfl, Nat.le_of_ble_eq_true rfl⟩ (Nat.le_of_ble_eq_true rfl) ⟨Nat.le_refl _, Nat.le_refl _⟩ (fun b => b) ?_
  refine r_ifne (pc := 68) (tgt := 75) dX12_weather_68 rfl (fun c => ?_) (fun c => ?_)
  · have h := ie h c
    refine r_aload_n (pc := 75) dX12_weather_75 rfl 1 rfl ?_
    obtain ⟨g1, h⟩ := gd h
    obtain ⟨a2, ha2, h⟩ := ob h
    refine r_getS (pc := 76) dX12_weather_76 fgX12_207 rfl g1 ha2 ?_
    refine r_iload_n (pc := 79) dX12_weather_79 rfl 2 rfl ?_
    obtain ⟨g3, h⟩ := gd h
    obtain ⟨g4, h⟩ := gd h
    refine r_iaload (pc := 80) dX12_weather_80 g3 g4 ?_
    refine r_istore (pc := 81) (L' := [(5, vI (I a2 (Int32.toNatClampNeg x1))), (4, vI s0), (0, vR (some t)), (1, vI x1), (2, vI x2), (3, vI x3)]) dX12_weather_81 (by decide) rfl ?_
    refine r_aload_n (pc := 83) dX12_weather_83 rfl 2 rfl ?_
    refine r_getS (pc := 84) dX12_weather_84 fgX12_207 rfl g1 ha2 ?_
    refine r_iload_n (pc := 87) dX12_weather_87 rfl 3 rfl ?_
    refine r_iload_n (pc := 88) dX12_weather_88 rfl 4 rfl ?_
    refine r_iastore (pc := 89) dX12_weather_89 g3 g4 ?_
    refine r_iload (pc := 90) dX12_weather_90 0 rfl ?_
    cases h
    exact r_iret dX12_weather_92
  · have h := it h c
    refine r_ldcw (pc := 71) dX12_weather_71 ciX12_655 ?_
    cases h
    exact r_iret dX12_weather_74
def fX12_weather_b25  (σ : Shp) (R : Nat → Nat → Option Nat) (t : Nat) (I : Nat → Nat → Int32) (x1 : Int32) (x2 : Int32) (s0 : Int32) : Option ((Nat → Nat → Int32) × (Int32)) :=
  if x1 = 0 then
    fX12_weather_b59 σ R t I x1 x2 s0 (1000 : Int32)
  else
    if x1 = (1 : Int32) then
      fX12_weather_b59 σ R t I x1 x2 s0 (60000 : Int32)
    else
      if x1 = (2 : Int32) then
        fX12_weather_b59 σ R t I x1 x2 s0 (40000 : Int32)
      else
        fX12_weather_b59 σ R t I x1 x2 s0 (1 : Int32)
theorem wX12_weather_b25 {G : Gx} {l : Launch} {σ : Shp} {I : Nat → Nat → Int32} {J : Nat → Nat → Int64} {D : Nat → Nat → UInt64} {R : Nat → Nat → Option Nat} {t : Nat} {I9 : Nat → Nat → Int32} {r9 : Int32} {x1 : Int32} {x2 : Int32} {s0 : Int32} (h : fX12_weather_b25 σ R t I x1 x2 s0 = some (I9, r9)) : WX12_weather G l σ (σ, I9, J, D, R) (some (vI r9)) (σ, I, J, D, R) 25 [(0, vR (some t)), (1, vI x1), (2, vI x2)] [vI s0] := by
  unfold fX12_weather_b25 at h
  refine r_istore_n (pc := 25) (L' := [(3, vI s0), (0, vR (some t)), (1, vI x1), (2, vI x2)]) dX12_weather_25 rfl (by decide) rfl ?_
  refine r_iload_n (pc := 26) dX12_weather_26 rfl 2 rfl ?_
  refine r_ifne (pc := 27) (tgt := 36) dX12_weather_27 rfl (fun c => ?_) (fun c => ?_)
  · have h := ie h c
    refine r_iload_n (pc := 36) dX12_weather_36 rfl 2 rfl ?_
    refine r_iconst (pc := 37) dX12_weather_37 kc_iconst_1 ?_
    refine r_icmp_ne (pc := 38) (tgt := 47) dX12_weather_38 rfl (fun c => ?_) (fun c => ?_)
    · have h := ie h c
      refine r_iload_n (pc := 47) dX12_weather_47 rfl 2 rfl ?_
      refine r_iconst (pc := 48) dX12_weather_48 kc_iconst_2 ?_
      refine r_icmp_ne (pc := 49) (tgt := 58) dX12_weather_49 rfl (fun c => ?_) (fun c => ?_)
      · have h := ie h c
        refine r_iconst (pc := 58) dX12_weather_58 kc_iconst_1 ?_
        refine r_sub [1, 2, 3, 0] rfl ?_
        exact wX12_weather_b59 h
      · have h := it h c
        refine r_ldcw (pc := 52) dX12_weather_52 ciX12_658 ?_
        refine r_goto (pc := 55) (tgt := 59) dX12_weather_55 rfl ?_
        refine r_sub [1, 2, 3, 0] rfl ?_
        exact wX12_weather_b59 h
    · have h := it h c
      refine r_ldcw (pc := 41) dX12_weather_41 ciX12_657 ?_
      refine r_goto (pc := 44) (tgt := 59) dX12_weather_44 rfl ?_
      refine r_sub [1, 2, 3, 0] rfl ?_
      exact wX12_weather_b59 h
  · have h := it h c
    refine r_sipush (pc := 30) dX12_weather_30 kc_sipush_1000 ?_
    refine r_goto (pc := 33) (tgt := 59) dX12_weather_33 rfl ?_
    refine r_sub [1, 2, 3, 0] rfl ?_
    exact wX12_weather_b59 h
def fX12_weather (σ : Shp) (I : Nat → Nat → Int32) (R : Nat → Nat → Option Nat) (t : Nat) (x1 : Int32) (x2 : Int32) : Option ((Nat → Nat → Int32) × (Int32)) :=
  if (fX12_in x1 (0 : Int32) (4 : Int32)) = 0 then
    some (I, (-100000 : Int32))
  else
    if x1 = (1 : Int32) then
      fX12_weather_b25 σ R t I x1 x2 (-40000 : Int32)
    else
      fX12_weather_b25 σ R t I x1 x2 (0 : Int32)
theorem kX12_weather {G : Gx} {l : Launch} {σ : Shp} {I : Nat → Nat → Int32} {J : Nat → Nat → Int64} {D : Nat → Nat → UInt64} {R : Nat → Nat → Option Nat} {t : Nat} {x1 : Int32} {x2 : Int32} {I9 : Nat → Nat → Int32} {r9 : Int32} (h : fX12_weather σ I R t x1 x2 = some (I9, r9)) : Con G l yX12_weather cX12_weather 6 (some .int) 1 22 [vR (some t), vI x1, vI x2] (σ, I, J, D, R) (σ, I9, J, D, R) (some (vI r9)) := by
  unfold fX12_weather at h
  refine Con.mk (by decide +kernel) rfl (Nat.le_of_ble_eq_true rfl) ?_
  show WX12_weather G l σ (σ, I9, J, D, R) (some (vI r9)) (σ, I, J, D, R) 0 _ []
  refine r_iload_n (pc := 0) dX12_weather_0 rfl 1 rfl ?_
  refine r_iconst (pc := 1) dX12_weather_1 kc_iconst_0 ?_
  refine r_iconst (pc := 2) dX12_weather_2 kc_iconst_4 ?_
  refine r_callS1 (pc := 3) (av := [vI x1, vI (0 : Int32), vI (4 : Int32)]) (S := []) dX12_weather_3 (kX12_in rfl) mkX12_322 mwX12_in rfl ⟨Nat.le_of_ble_eq_true rfl, Nat.le_of_ble_eq_true rfl⟩ (Nat.le_of_ble_eq_true rfl) ⟨Nat.le_refl _, Nat.le_refl _⟩ (fun b => b) ?_
  refine r_ifne (pc := 6) (tgt := 13) dX12_weather_6 rfl (fun c => ?_) (fun c => ?_)
  · have h := ie h c
    refine r_iload_n (pc := 13) dX12_weather_13 rfl 1 rfl ?_
    refine r_iconst (pc := 14) dX12_weather_14 kc_iconst_1 ?_
    refine r_icmp_ne (pc := 15) (tgt := 24) dX12_weather_15 rfl (fun c => ?_) (fun c => ?_)
    · have h := ie h c
      refine r_iconst (pc := 24) dX12_weather_24 kc_iconst_0 ?_
      refine r_sub [0, 1, 2] rfl ?_
      exact wX12_weather_b25 h
    · have h := it h c
      refine r_ldcw (pc := 18) dX12_weather_18 ciX12_656 ?_
      refine r_goto (pc := 21) (tgt := 25) dX12_weather_21 rfl ?_
      refine r_sub [0, 1, 2] rfl ?_
      exact wX12_weather_b25 h
  · have h := it h c
    refine r_ldcw (pc := 9) dX12_weather_9 ciX12_655 ?_
    cases h
    exact r_iret dX12_weather_12
abbrev WX12_mark (G : Gx) (l : Launch) (σ0 : Shp) (X1 : Stt) (rv : Option SV) : Stt → Nat → List (Nat × SV) → List SV → Prop := Wm G l yX12_mark cX12_mark 4 (some .int) (fun _ => True) (rmx 1 22 σ0 X1.1) σ0 (Qmx G σ0 X1 rv)
def fX12_mark_b67  (σ : Shp) (R : Nat → Nat → Option Nat) (t : Nat) (I : Nat → Nat → Int32) (x1 : Int32) (x2 : Int32) (x3 : Int32) : Option ((Nat → Nat → Int32) × (Int32)) :=
  if kdx σ t = 13 then
  ((R t 103) : Option Nat).bind fun a6 =>
  if kdx σ a6 = 20 then
  if ¬ (x1 < 0 ∨ lnx σ a6 ≤ Int32.toNatClampNeg x1) then
  if (I a6 (Int32.toNatClampNeg x1)) = (6 : Int32) then
    some (I, (-4 : Int32))
  else
    ((R t 104) : Option Nat).bind fun a9 =>
    if kdx σ a9 = 20 then
    if ¬ ((((6 : Int32) * x1) + (I a6 (Int32.toNatClampNeg x1))) < 0 ∨ lnx σ a9 ≤ Int32.toNatClampNeg (((6 : Int32) * x1) + (I a6 (Int32.toNatClampNeg x1)))) then
    let I12 := u2 I a9 (Int32.toNatClampNeg (((6 : Int32) * x1) + (I a6 (Int32.toNatClampNeg x1)))) x2
    ((R t 105) : Option Nat).bind fun a13 =>
    if kdx σ a13 = 20 then
    if ¬ ((((6 : Int32) * x1) + (I12 a6 (Int32.toNatClampNeg x1))) < 0 ∨ lnx σ a13 ≤ Int32.toNatClampNeg (((6 : Int32) * x1) + (I12 a6 (Int32.toNatClampNeg x1)))) then
    let I16 := u2 I12 a13 (Int32.toNatClampNeg (((6 : Int32) * x1) + (I12 a6 (Int32.toNatClampNeg x1)))) x3
    let I17 := u2 I16 a6 (Int32.toNatClampNeg x1) ((I16 a6 (Int32.toNatClampNeg x1)) + (1 : Int32))
    some (I17, (I17 a6 (Int32.toNatClampNeg x1)))
    else none
    else none
    else none
    else none
  else none
  else none
  else none
theorem wX12_mark_b67 {G : Gx} {l : Launch} {σ : Shp} {I : Nat → Nat → Int32} {J : Nat → Nat → Int64} {D : Nat → Nat → UInt64} {R : Nat → Nat → Option Nat} {t : Nat} {I9 : Nat → Nat → Int32} {r9 : Int32} {x1 : Int32} {x2 : Int32} {x3 : Int32} (h : fX12_mark_b67 σ R t I x1 x2 x3 = some (I9, r9)) : WX12_mark G l σ (σ, I9, J, D, R) (some (vI r9)) (σ, I, J, D, R) 67 [(0, vR (some t)), (1, vI x1), (2, vI x2), (3, vI x3)] [] := by
  unfold fX12_mark_b67 at h
  refine r_aload_n (pc := 67) dX12_mark_67 rfl 0 rfl ?_
  obtain ⟨g5, h⟩ := gd h
  obtain ⟨a6, ha6, h⟩ := ob h
  refine r_getS (pc := 68) dX12_mark_68 fgX12_232 rfl g5 ha6 ?_
  refine r_iload_n (pc := 71) dX12_mark_71 rfl 1 rfl ?_
  obtain ⟨g7, h⟩ := gd h
  obtain ⟨g8, h⟩ := gd h
  refine r_iaload (pc := 72) dX12_mark_72 g7 g8 ?_
  refine r_bipush (pc := 73) dX12_mark_73 kc_bipush_6 ?_
  refine r_icmp_ne (pc := 75) (tgt := 81) dX12_mark_75 rfl (fun c => ?_) (fun c => ?_)
  · have h := ie h c
    refine r_aload_n (pc := 81) dX12_mark_81 rfl 0 rfl ?_
    obtain ⟨a9, ha9, h⟩ := ob h
    refine r_getS (pc := 82) dX12_mark_82 fgX12_235 rfl g5 ha9 ?_
    refine r_bipush (pc := 85) dX12_mark_85 kc_bipush_6 ?_
    refine r_iload_n (pc := 87) dX12_mark_87 rfl 1 rfl ?_
    refine r_imul (pc := 88) dX12_mark_88 ?_
    refine r_aload_n (pc := 89) dX12_mark_89 rfl 0 rfl ?_
    refine r_getS (pc := 90) dX12_mark_90 fgX12_232 rfl g5 ha6 ?_
    refine r_iload_n (pc := 93) dX12_mark_93 rfl 1 rfl ?_
    refine r_iaload (pc := 94) dX12_mark_94 g7 g8 ?_
    refine r_iadd (pc := 95) dX12_mark_95 ?_
    refine r_iload_n (pc := 96) dX12_mark_96 rfl 2 rfl ?_
    obtain ⟨g10, h⟩ := gd h
    obtain ⟨g11, h⟩ := gd h
    refine r_iastore (pc := 97) dX12_mark_97 g10 g11 ?_
    refine r_aload_n (pc := 98) dX12_mark_98 rfl 0 rfl ?_
    obtain ⟨a13, ha13, h⟩ := ob h
    refine r_getS (pc := 99) dX12_mark_99 fgX12_238 rfl g5 ha13 ?_
    refine r_bipush (pc := 102) dX12_mark_102 kc_bipush_6 ?_
    refine r_iload_n (pc := 104) dX12_mark_104 rfl 1 rfl ?_
    refine r_imul (pc := 105) dX12_mark_105 ?_
    refine r_aload_n (pc := 106) dX12_mark_106 rfl 0 rfl ?_
    refine r_getS (pc := 107) dX12_mark_107 fgX12_232 rfl g5 ha6 ?_
    refine r_iload_n (pc := 110) dX12_mark_110 rfl 1 rfl ?_
    refine r_iaload (pc := 111) dX12_mark_111 g7 g8 ?_
    refine r_iadd (pc := 112) dX12_mark_112 ?_
    refine r_iload_n (pc := 113) dX12_mark_113 rfl 3 rfl ?_
    obtain ⟨g14, h⟩ := gd h
    obtain ⟨g15, h⟩ := gd h
    refine r_iastore (pc := 114) dX12_mark_114 g14 g15 ?_
    refine r_aload_n (pc := 115) dX12_mark_115 rfl 0 rfl ?_
    refine r_getS (pc := 116) dX12_mark_116 fgX12_232 rfl g5 ha6 ?_
    refine r_iload_n (pc := 119) dX12_mark_119 rfl 1 rfl ?_
    refine r_dup2 (pc := 120) dX12_mark_120 rfl rfl ?_
    refine r_iaload (pc := 121) dX12_mark_121 g7 g8 ?_
    refine r_iconst (pc := 122) dX12_mark_122 kc_iconst_1 ?_
    refine r_iadd (pc := 123) dX12_mark_123 ?_
    refine r_iastore (pc := 124) dX12_mark_124 g7 g8 ?_
    refine r_aload_n (pc := 125) dX12_mark_125 rfl 0 rfl ?_
    refine r_getS (pc := 126) dX12_mark_126 fgX12_232 rfl g5 ha6 ?_
    refine r_iload_n (pc := 129) dX12_mark_129 rfl 1 rfl ?_
    refine r_iaload (pc := 130) dX12_mark_130 g7 g8 ?_
    cases h
    exact r_iret dX12_mark_131
  · have h := it h c
    refine r_bipush (pc := 78) dX12_mark_78 kc_bipush_m4 ?_
    cases h
    exact r_iret dX12_mark_80
def fX12_mark (σ : Shp) (I : Nat → Nat → Int32) (R : Nat → Nat → Option Nat) (t : Nat) (x1 : Int32) (x2 : Int32) (x3 : Int32) : Option ((Nat → Nat → Int32) × (Int32)) :=
  if (fX12_in x1 (0 : Int32) (2 : Int32)) = 0 then
    some (I, (-2 : Int32))
  else
    if (fX12_in x2 (0 : Int32) (1439 : Int32)) = 0 then
      some (I, (-2 : Int32))
    else
      if (fX12_in x3 (-50000 : Int32) (60000 : Int32)) = 0 then
        some (I, (-2 : Int32))
      else
        if kdx σ t = 13 then
        ((R t 103) : Option Nat).bind fun a2 =>
        if kdx σ a2 = 20 then
        if ¬ (x1 < 0 ∨ lnx σ a2 ≤ Int32.toNatClampNeg x1) then
        if (I a2 (Int32.toNatClampNeg x1)) ≤ 0 then
          fX12_mark_b67 σ R t I x1 x2 x3
        else
          ((R t 104) : Option Nat).bind fun a18 =>
          if kdx σ a18 = 20 then
          if ¬ (((((6 : Int32) * x1) + (I a2 (Int32.toNatClampNeg x1))) - (1 : Int32)) < 0 ∨ lnx σ a18 ≤ Int32.toNatClampNeg ((((6 : Int32) * x1) + (I a2 (Int32.toNatClampNeg x1))) - (1 : Int32))) then
          if (I a18 (Int32.toNatClampNeg ((((6 : Int32) * x1) + (I a2 (Int32.toNatClampNeg x1))) - (1 : Int32)))) < x2 then
            fX12_mark_b67 σ R t I x1 x2 x3
          else
            some (I, (-2 : Int32))
          else none
          else none
        else none
        else none
        else none
theorem kX12_mark {G : Gx} {l : Launch} {σ : Shp} {I : Nat → Nat → Int32} {J : Nat → Nat → Int64} {D : Nat → Nat → UInt64} {R : Nat → Nat → Option Nat} {t : Nat} {x1 : Int32} {x2 : Int32} {x3 : Int32} {I9 : Nat → Nat → Int32} {r9 : Int32} (h : fX12_mark σ I R t x1 x2 x3 = some (I9, r9)) : Con G l yX12_mark cX12_mark 4 (some .int) 1 22 [vR (some t), vI x1, vI x2, vI x3] (σ, I, J, D, R) (σ, I9, J, D, R) (some (vI r9)) := by
  unfold fX12_mark at h
  refine Con.mk (by decide +kernel) rfl (Nat.le_of_ble_eq_true rfl) ?_
  show WX12_mark G l σ (σ, I9, J, D, R) (some (vI r9)) (σ, I, J, D, R) 0 _ []
  refine r_iload_n (pc := 0) dX12_mark_0 rfl 1 rfl ?_
  refine r_iconst (pc := 1) dX12_mark_1 kc_iconst_0 ?_
  refine r_iconst (pc := 2) dX12_mark_2 kc_iconst_2 ?_
  refine r_callS1 (pc := 3) (av := [vI x1, vI (0 : Int32), vI (2 : Int32)]) (S := []) dX12_mark_3 (kX12_in rfl) mkX12_322 mwX12_in rfl ⟨Nat.le_of_ble_eq_true rfl, Nat.le_of_ble_eq_true rfl⟩ (Nat.le_of_ble_eq_true rfl) ⟨Nat.le_refl _, Nat.le_refl _⟩ (fun b => b) ?_
  refine r_if_eq (pc := 6) (tgt := 64) dX12_mark_6 rfl (fun c => ?_) (fun c => ?_)
  · have h := it h c
    refine r_bipush (pc := 64) dX12_mark_64 kc_bipush_m2 ?_
    cases h
    exact r_iret dX12_mark_66
  · have h := ie h c
    refine r_iload_n (pc := 9) dX12_mark_9 rfl 2 rfl ?_
    refine r_iconst (pc := 10) dX12_mark_10 kc_iconst_0 ?_
    refine r_sipush (pc := 11) dX12_mark_11 kc_sipush_1439 ?_
    refine r_callS1 (pc := 14) (av := [vI x2, vI (0 : Int32), vI (1439 : Int32)]) (S := []) dX12_mark_14 (kX12_in rfl) mkX12_322 mwX12_in rfl ⟨Nat.le_of_ble_eq_true rfl, Nat.le_of_ble_eq_true rfl⟩ (Nat.le_of_ble_eq_true rfl) ⟨Nat.le_refl _, Nat.le_refl _⟩ (fun b => b) ?_
    refine r_if_eq (pc := 17) (tgt := 64) dX12_mark_17 rfl (fun c => ?_) (fun c => ?_)
    · have h := it h c
      refine r_bipush (pc := 64) dX12_mark_64 kc_bipush_m2 ?_
      cases h
      exact r_iret dX12_mark_66
    · have h := ie h c
      refine r_iload_n (pc := 20) dX12_mark_20 rfl 3 rfl ?_
      refine r_ldcw (pc := 21) dX12_mark_21 ciX12_659 ?_
      refine r_ldcw (pc := 24) dX12_mark_24 ciX12_657 ?_
      refine r_callS1 (pc := 27) (av := [vI x3, vI (-50000 : Int32), vI (60000 : Int32)]) (S := []) dX12_mark_27 (kX12_in rfl) mkX12_322 mwX12_in rfl ⟨Nat.le_of_ble_eq_true rfl, Nat.le_of_ble_eq_true rfl⟩ (Nat.le_of_ble_eq_true rfl) ⟨Nat.le_refl _, Nat.le_refl _⟩ (fun b => b) ?_
      refine r_if_eq (pc := 30) (tgt := 64) dX12_mark_30 rfl (fun c => ?_) (fun c => ?_)
      · have h := it h c
        refine r_bipush (pc := 64) dX12_mark_64 kc_bipush_m2 ?_
        cases h
        exact r_iret dX12_mark_66
      · have h := ie h c
        refine r_aload_n (pc := 33) dX12_mark_33 rfl 0 rfl ?_
        obtain ⟨g1, h⟩ := gd h
        obtain ⟨a2, ha2, h⟩ := ob h
        refine r_getS (pc := 34) dX12_mark_34 fgX12_232 rfl g1 ha2 ?_
        refine r_iload_n (pc := 37) dX12_mark_37 rfl 1 rfl ?_
        obtain ⟨g3, h⟩ := gd h
        obtain ⟨g4, h⟩ := gd h
        refine r_iaload (pc := 38) dX12_mark_38 g3 g4 ?_
        refine r_if_le (pc := 39) (tgt := 67) dX12_mark_39 rfl (fun c => ?_) (fun c => ?_)
        · have h := it h c
          refine r_sub [0, 1, 2, 3] rfl ?_
          exact wX12_mark_b67 h
        · have h := ie h c
          refine r_iload_n (pc := 42) dX12_mark_42 rfl 2 rfl ?_
          refine r_aload_n (pc := 43) dX12_mark_43 rfl 0 rfl ?_
          obtain ⟨a18, ha18, h⟩ := ob h
          refine r_getS (pc := 44) dX12_mark_44 fgX12_235 rfl g1 ha18 ?_
          refine r_bipush (pc := 47) dX12_mark_47 kc_bipush_6 ?_
          refine r_iload_n (pc := 49) dX12_mark_49 rfl 1 rfl ?_
          refine r_imul (pc := 50) dX12_mark_50 ?_
          refine r_aload_n (pc := 51) dX12_mark_51 rfl 0 rfl ?_
          refine r_getS (pc := 52) dX12_mark_52 fgX12_232 rfl g1 ha2 ?_
          refine r_iload_n (pc := 55) dX12_mark_55 rfl 1 rfl ?_
          refine r_iaload (pc := 56) dX12_mark_56 g3 g4 ?_
          refine r_iadd (pc := 57) dX12_mark_57 ?_
          refine r_iconst (pc := 58) dX12_mark_58 kc_iconst_1 ?_
          refine r_isub (pc := 59) dX12_mark_59 ?_
          obtain ⟨g19, h⟩ := gd h
          obtain ⟨g20, h⟩ := gd h
          refine r_iaload (pc := 60) dX12_mark_60 g19 g20 ?_
          refine r_icmp_gt (pc := 61) (tgt := 67) dX12_mark_61 rfl (fun c => ?_) (fun c => ?_)
          · have h := it h c
            refine r_sub [0, 1, 2, 3] rfl ?_
            exact wX12_mark_b67 h
          · have h := ie h c
            refine r_bipush (pc := 64) dX12_mark_64 kc_bipush_m2 ?_
            cases h
            exact r_iret dX12_mark_66
abbrev WX12_unmark (G : Gx) (l : Launch) (σ0 : Shp) (X1 : Stt) (rv : Option SV) : Stt → Nat → List (Nat × SV) → List SV → Prop := Wm G l yX12_unmark cX12_unmark 3 (some .int) (fun _ => True) (rmx 1 22 σ0 X1.1) σ0 (Qmx G σ0 X1 rv)
def fX12_unmark (σ : Shp) (I : Nat → Nat → Int32) (R : Nat → Nat → Option Nat) (t : Nat) (x1 : Int32) : Option ((Nat → Nat → Int32) × (Int32)) :=
  if (fX12_in x1 (0 : Int32) (2 : Int32)) = 0 then
    some (I, (-2 : Int32))
  else
    if kdx σ t = 13 then
    ((R t 103) : Option Nat).bind fun a2 =>
    if kdx σ a2 = 20 then
    if ¬ (x1 < 0 ∨ lnx σ a2 ≤ Int32.toNatClampNeg x1) then
    let v5 := (I a2 (Int32.toNatClampNeg x1))
    let I6 := u2 I a2 (Int32.toNatClampNeg x1) (0 : Int32)
    some (I6, v5)
    else none
    else none
    else none
theorem kX12_unmark {G : Gx} {l : Launch} {σ : Shp} {I : Nat → Nat → Int32} {J : Nat → Nat → Int64} {D : Nat → Nat → UInt64} {R : Nat → Nat → Option Nat} {t : Nat} {x1 : Int32} {I9 : Nat → Nat → Int32} {r9 : Int32} (h : fX12_unmark σ I R t x1 = some (I9, r9)) : Con G l yX12_unmark cX12_unmark 3 (some .int) 1 22 [vR (some t), vI x1] (σ, I, J, D, R) (σ, I9, J, D, R) (some (vI r9)) := by
  unfold fX12_unmark at h
  refine Con.mk (by decide +kernel) rfl (Nat.le_of_ble_eq_true rfl) ?_
  show WX12_unmark G l σ (σ, I9, J, D, R) (some (vI r9)) (σ, I, J, D, R) 0 _ []
  refine r_iload_n (pc := 0) dX12_unmark_0 rfl 1 rfl ?_
  refine r_iconst (pc := 1) dX12_unmark_1 kc_iconst_0 ?_
  refine r_iconst (pc := 2) dX12_unmark_2 kc_iconst_2 ?_
  refine r_callS1 (pc := 3) (av := [vI x1, vI (0 : Int32), vI (2 : Int32)]) (S := []) dX12_unmark_3 (kX12_in rfl) mkX12_322 mwX12_in rfl ⟨Nat.le_of_ble_eq_true rfl, Nat.le_of_ble_eq_true rfl⟩ (Nat.le_of_ble_eq_true rfl) ⟨Nat.le_refl _, Nat.le_refl _⟩ (fun b => b) ?_
  refine r_ifne (pc := 6) (tgt := 12) dX12_unmark_6 rfl (fun c => ?_) (fun c => ?_)
  · have h := ie h c
    refine r_aload_n (pc := 12) dX12_unmark_12 rfl 0 rfl ?_
    obtain ⟨g1, h⟩ := gd h
    obtain ⟨a2, ha2, h⟩ := ob h
    refine r_getS (pc := 13) dX12_unmark_13 fgX12_232 rfl g1 ha2 ?_
    refine r_iload_n (pc := 16) dX12_unmark_16 rfl 1 rfl ?_
    obtain ⟨g3, h⟩ := gd h
    obtain ⟨g4, h⟩ := gd h
    refine r_iaload (pc := 17) dX12_unmark_17 g3 g4 ?_
    refine r_istore_n (pc := 18) (L' := [(2, vI (I a2 (Int32.toNatClampNeg x1))), (0, vR (some t)), (1, vI x1)]) dX12_unmark_18 rfl (by decide) rfl ?_
    refine r_aload_n (pc := 19) dX12_unmark_19 rfl 1 rfl ?_
    refine r_getS (pc := 20) dX12_unmark_20 fgX12_232 rfl g1 ha2 ?_
    refine r_iload_n (pc := 23) dX12_unmark_23 rfl 2 rfl ?_
    refine r_iconst (pc := 24) dX12_unmark_24 kc_iconst_0 ?_
    refine r_iastore (pc := 25) dX12_unmark_25 g3 g4 ?_
    refine r_iload_n (pc := 26) dX12_unmark_26 rfl 0 rfl ?_
    cases h
    exact r_iret dX12_unmark_27
  · have h := it h c
    refine r_bipush (pc := 9) dX12_unmark_9 kc_bipush_m2 ?_
    cases h
    exact r_iret dX12_unmark_11
abbrev WX12_wishAt (G : Gx) (l : Launch) (σ0 : Shp) (X1 : Stt) (rv : Option SV) : Stt → Nat → List (Nat × SV) → List SV → Prop := Wm G l yX12_wishAt cX12_wishAt 9 (some .int) (fun _ => True) (rmx 1 25 σ0 X1.1) σ0 (Qmx G σ0 X1 rv)
def fX12_wishAt_b153  (σ : Shp) (I : Nat → Nat → Int32) (R : Nat → Nat → Option Nat) (t : Nat) (x5 : Int32) (x6 : Int32) (x7 : Int32) (s0 : Int32) (s1 : Int32) : Option ((Int32)) :=
  let v19 := (s0 + s1)
  if kdx σ t = 13 then
  ((R t 105) : Option Nat).bind fun a21 =>
  if kdx σ a21 = 20 then
  if ¬ (x5 < 0 ∨ lnx σ a21 ≤ Int32.toNatClampNeg x5) then
  if ¬ (x6 < 0 ∨ lnx σ a21 ≤ Int32.toNatClampNeg x6) then
  (fX12_down ((Int32.toInt64 ((I a21 (Int32.toNatClampNeg x6)) - (I a21 (Int32.toNatClampNeg x5)))) * (Int32.toInt64 x7)) (Int32.toInt64 v19)).bind fun r25 =>
  some ((I a21 (Int32.toNatClampNeg x5)) + (Int64.toInt32 r25))
  else none
  else none
  else none
  else none
theorem wX12_wishAt_b153 {G : Gx} {l : Launch} {σ : Shp} {I : Nat → Nat → Int32} {J : Nat → Nat → Int64} {D : Nat → Nat → UInt64} {R : Nat → Nat → Option Nat} {t : Nat} {r9 : Int32} {x5 : Int32} {x6 : Int32} {x7 : Int32} {s0 : Int32} {s1 : Int32} (h : fX12_wishAt_b153 σ I R t x5 x6 x7 s0 s1 = some r9) : WX12_wishAt G l σ (σ, I, J, D, R) (some (vI r9)) (σ, I, J, D, R) 153 [(0, vR (some t)), (5, vI x5), (6, vI x6), (7, vI x7)] [vI s1, vI s0] := by
  unfold fX12_wishAt_b153 at h
  refine r_iadd (pc := 153) dX12_wishAt_153 ?_
  refine r_istore (pc := 154) (L' := [(8, vI (s0 + s1)), (0, vR (some t)), (5, vI x5), (6, vI x6), (7, vI x7)]) dX12_wishAt_154 (by decide) rfl ?_
  refine r_aload_n (pc := 156) dX12_wishAt_156 rfl 1 rfl ?_
  obtain ⟨g20, h⟩ := gd h
  obtain ⟨a21, ha21, h⟩ := ob h
  refine r_getS (pc := 157) dX12_wishAt_157 fgX12_238 rfl g20 ha21 ?_
  refine r_iload (pc := 160) dX12_wishAt_160 2 rfl ?_
  obtain ⟨g22, h⟩ := gd h
  obtain ⟨g23, h⟩ := gd h
  refine r_iaload (pc := 162) dX12_wishAt_162 g22 g23 ?_
  refine r_aload_n (pc := 163) dX12_wishAt_163 rfl 1 rfl ?_
  refine r_getS (pc := 164) dX12_wishAt_164 fgX12_238 rfl g20 ha21 ?_
  refine r_iload (pc := 167) dX12_wishAt_167 3 rfl ?_
  obtain ⟨g24, h⟩ := gd h
  refine r_iaload (pc := 169) dX12_wishAt_169 g22 g24 ?_
  refine r_aload_n (pc := 170) dX12_wishAt_170 rfl 1 rfl ?_
  refine r_getS (pc := 171) dX12_wishAt_171 fgX12_238 rfl g20 ha21 ?_
  refine r_iload (pc := 174) dX12_wishAt_174 2 rfl ?_
  refine r_iaload (pc := 176) dX12_wishAt_176 g22 g23 ?_
  refine r_isub (pc := 177) dX12_wishAt_177 ?_
  refine r_i2l (pc := 178) dX12_wishAt_178 ?_
  refine r_iload (pc := 179) dX12_wishAt_179 4 rfl ?_
  refine r_i2l (pc := 181) dX12_wishAt_181 ?_
  refine r_lmul (pc := 182) dX12_wishAt_182 ?_
  refine r_iload (pc := 183) dX12_wishAt_183 0 rfl ?_
  refine r_i2l (pc := 185) dX12_wishAt_185 ?_
  obtain ⟨r25, hc26, h⟩ := ob h
  refine r_callS1 (pc := 186) (av := [vL ((Int32.toInt64 ((I a21 (Int32.toNatClampNeg x6)) - (I a21 (Int32.toNatClampNeg x5)))) * (Int32.toInt64 x7)), vL (Int32.toInt64 (s0 + s1))]) (S := [vI (I a21 (Int32.toNatClampNeg x5))]) dX12_wishAt_186 (kX12_down hc26) mkX12_623 mwX12_down rfl ⟨Nat.le_of_ble_eq_true rfl, Nat.le_of_ble_eq_true rfl⟩ (Nat.le_of_ble_eq_true rfl) ⟨Nat.le_refl _, Nat.le_refl _⟩ (fun b => b) ?_
  refine r_l2i (pc := 189) dX12_wishAt_189 ?_
  refine r_iadd (pc := 190) dX12_wishAt_190 ?_
  cases h
  exact r_iret dX12_wishAt_191
def fX12_wishAt_b121  (σ : Shp) (I : Nat → Nat → Int32) (R : Nat → Nat → Option Nat) (t : Nat) (x5 : Int32) (x6 : Int32) (s0 : Int32) (s1 : Int32) : Option ((Int32)) :=
  let v13 := (s0 + s1)
  if kdx σ t = 13 then
  ((R t 104) : Option Nat).bind fun a15 =>
  if kdx σ a15 = 20 then
  if ¬ (x6 < 0 ∨ lnx σ a15 ≤ Int32.toNatClampNeg x6) then
  if ¬ (x5 < 0 ∨ lnx σ a15 ≤ Int32.toNatClampNeg x5) then
  if x5 < x6 then
    fX12_wishAt_b153 σ I R t x5 x6 v13 ((I a15 (Int32.toNatClampNeg x6)) - (I a15 (Int32.toNatClampNeg x5))) (0 : Int32)
  else
    fX12_wishAt_b153 σ I R t x5 x6 v13 ((I a15 (Int32.toNatClampNeg x6)) - (I a15 (Int32.toNatClampNeg x5))) (1440 : Int32)
  else none
  else none
  else none
  else none
theorem wX12_wishAt_b121 {G : Gx} {l : Launch} {σ : Shp} {I : Nat → Nat → Int32} {J : Nat → Nat → Int64} {D : Nat → Nat → UInt64} {R : Nat → Nat → Option Nat} {t : Nat} {r9 : Int32} {x5 : Int32} {x6 : Int32} {s0 : Int32} {s1 : Int32} (h : fX12_wishAt_b121 σ I R t x5 x6 s0 s1 = some r9) : WX12_wishAt G l σ (σ, I, J, D, R) (some (vI r9)) (σ, I, J, D, R) 121 [(0, vR (some t)), (5, vI x5), (6, vI x6)] [vI s1, vI s0] := by
  unfold fX12_wishAt_b121 at h
  refine r_iadd (pc := 121) dX12_wishAt_121 ?_
  refine r_istore (pc := 122) (L' := [(7, vI (s0 + s1)), (0, vR (some t)), (5, vI x5), (6, vI x6)]) dX12_wishAt_122 (by decide) rfl ?_
  refine r_aload_n (pc := 124) dX12_wishAt_124 rfl 1 rfl ?_
  obtain ⟨g14, h⟩ := gd h
  obtain ⟨a15, ha15, h⟩ := ob h
  refine r_getS (pc := 125) dX12_wishAt_125 fgX12_235 rfl g14 ha15 ?_
  refine r_iload (pc := 128) dX12_wishAt_128 3 rfl ?_
  obtain ⟨g16, h⟩ := gd h
  obtain ⟨g17, h⟩ := gd h
  refine r_iaload (pc := 130) dX12_wishAt_130 g16 g17 ?_
  refine r_aload_n (pc := 131) dX12_wishAt_131 rfl 1 rfl ?_
  refine r_getS (pc := 132) dX12_wishAt_132 fgX12_235 rfl g14 ha15 ?_
  refine r_iload (pc := 135) dX12_wishAt_135 2 rfl ?_
  obtain ⟨g18, h⟩ := gd h
  refine r_iaload (pc := 137) dX12_wishAt_137 g16 g18 ?_
  refine r_isub (pc := 138) dX12_wishAt_138 ?_
  refine r_iload (pc := 139) dX12_wishAt_139 3 rfl ?_
  refine r_iload (pc := 141) dX12_wishAt_141 2 rfl ?_
  refine r_icmp_gt (pc := 143) (tgt := 152) dX12_wishAt_143 rfl (fun c => ?_) (fun c => ?_)
  · have h := it h c
    refine r_iconst (pc := 152) dX12_wishAt_152 kc_iconst_0 ?_
    refine r_sub [1, 2, 3, 0] rfl ?_
    exact wX12_wishAt_b153 h
  · have h := ie h c
    refine r_sipush (pc := 146) dX12_wishAt_146 kc_sipush_1440 ?_
    refine r_goto (pc := 149) (tgt := 153) dX12_wishAt_149 rfl ?_
    refine r_sub [1, 2, 3, 0] rfl ?_
    exact wX12_wishAt_b153 h
def fX12_wishAt_b84  (σ : Shp) (I : Nat → Nat → Int32) (R : Nat → Nat → Option Nat) (t : Nat) (x2 : Int32) (x3 : Int32) (x4 : Int32) (x5 : Int32) (s0 : Int32) (s1 : Int32) : Option ((Int32)) :=
  let v8 := (s0 + s1)
  if x3 = (1 : Int32) then
    if kdx σ t = 13 then
    ((R t 105) : Option Nat).bind fun a28 =>
    if kdx σ a28 = 20 then
    if ¬ (x5 < 0 ∨ lnx σ a28 ≤ Int32.toNatClampNeg x5) then
    some (I a28 (Int32.toNatClampNeg x5))
    else none
    else none
    else none
  else
    if kdx σ t = 13 then
    ((R t 104) : Option Nat).bind fun a10 =>
    if kdx σ a10 = 20 then
    if ¬ (x5 < 0 ∨ lnx σ a10 ≤ Int32.toNatClampNeg x5) then
    if 0 ≤ x4 then
      fX12_wishAt_b121 σ I R t x5 v8 (x2 - (I a10 (Int32.toNatClampNeg x5))) (0 : Int32)
    else
      fX12_wishAt_b121 σ I R t x5 v8 (x2 - (I a10 (Int32.toNatClampNeg x5))) (1440 : Int32)
    else none
    else none
    else none
theorem wX12_wishAt_b84 {G : Gx} {l : Launch} {σ : Shp} {I : Nat → Nat → Int32} {J : Nat → Nat → Int64} {D : Nat → Nat → UInt64} {R : Nat → Nat → Option Nat} {t : Nat} {r9 : Int32} {x2 : Int32} {x3 : Int32} {x4 : Int32} {x5 : Int32} {s0 : Int32} {s1 : Int32} (h : fX12_wishAt_b84 σ I R t x2 x3 x4 x5 s0 s1 = some r9) : WX12_wishAt G l σ (σ, I, J, D, R) (some (vI r9)) (σ, I, J, D, R) 84 [(0, vR (some t)), (2, vI x2), (3, vI x3), (4, vI x4), (5, vI x5)] [vI s1, vI s0] := by
  unfold fX12_wishAt_b84 at h
  refine r_iadd (pc := 84) dX12_wishAt_84 ?_
  refine r_istore (pc := 85) (L' := [(6, vI (s0 + s1)), (0, vR (some t)), (2, vI x2), (3, vI x3), (4, vI x4), (5, vI x5)]) dX12_wishAt_85 (by decide) rfl ?_
  refine r_iload_n (pc := 87) dX12_wishAt_87 rfl 3 rfl ?_
  refine r_iconst (pc := 88) dX12_wishAt_88 kc_iconst_1 ?_
  refine r_icmp_ne (pc := 89) (tgt := 100) dX12_wishAt_89 rfl (fun c => ?_) (fun c => ?_)
  · have h := ie h c
    refine r_iload_n (pc := 100) dX12_wishAt_100 rfl 2 rfl ?_
    refine r_aload_n (pc := 101) dX12_wishAt_101 rfl 1 rfl ?_
    obtain ⟨g9, h⟩ := gd h
    obtain ⟨a10, ha10, h⟩ := ob h
    refine r_getS (pc := 102) dX12_wishAt_102 fgX12_235 rfl g9 ha10 ?_
    refine r_iload (pc := 105) dX12_wishAt_105 5 rfl ?_
    obtain ⟨g11, h⟩ := gd h
    obtain ⟨g12, h⟩ := gd h
    refine r_iaload (pc := 107) dX12_wishAt_107 g11 g12 ?_
    refine r_isub (pc := 108) dX12_wishAt_108 ?_
    refine r_iload (pc := 109) dX12_wishAt_109 4 rfl ?_
    refine r_ifge (pc := 111) (tgt := 120) dX12_wishAt_111 rfl (fun c => ?_) (fun c => ?_)
    · have h := it h c
      refine r_iconst (pc := 120) dX12_wishAt_120 kc_iconst_0 ?_
      refine r_sub [1, 5, 0] rfl ?_
      exact wX12_wishAt_b121 h
    · have h := ie h c
      refine r_sipush (pc := 114) dX12_wishAt_114 kc_sipush_1440 ?_
      refine r_goto (pc := 117) (tgt := 121) dX12_wishAt_117 rfl ?_
      refine r_sub [1, 5, 0] rfl ?_
      exact wX12_wishAt_b121 h
  · have h := it h c
    refine r_aload_n (pc := 92) dX12_wishAt_92 rfl 1 rfl ?_
    obtain ⟨g27, h⟩ := gd h
    obtain ⟨a28, ha28, h⟩ := ob h
    refine r_getS (pc := 93) dX12_wishAt_93 fgX12_238 rfl g27 ha28 ?_
    refine r_iload (pc := 96) dX12_wishAt_96 5 rfl ?_
    obtain ⟨g29, h⟩ := gd h
    obtain ⟨g30, h⟩ := gd h
    refine r_iaload (pc := 98) dX12_wishAt_98 g29 g30 ?_
    cases h
    exact r_iret dX12_wishAt_99
def fX12_wishAt_b56  (σ : Shp) (I : Nat → Nat → Int32) (R : Nat → Nat → Option Nat) (t : Nat) (x1 : Int32) (x2 : Int32) (x3 : Int32) (x4 : Int32) (s0 : Int32) (s1 : Int32) : Option ((Int32)) :=
  let v7 := (s0 + s1)
  if x4 < 0 then
    fX12_wishAt_b84 σ I R t x2 x3 x4 v7 ((6 : Int32) * x1) (0 : Int32)
  else
    if x4 = (x3 - (1 : Int32)) then
      fX12_wishAt_b84 σ I R t x2 x3 x4 v7 ((6 : Int32) * x1) (0 : Int32)
    else
      fX12_wishAt_b84 σ I R t x2 x3 x4 v7 ((6 : Int32) * x1) (x4 + (1 : Int32))
theorem wX12_wishAt_b56 {G : Gx} {l : Launch} {σ : Shp} {I : Nat → Nat → Int32} {J : Nat → Nat → Int64} {D : Nat → Nat → UInt64} {R : Nat → Nat → Option Nat} {t : Nat} {r9 : Int32} {x1 : Int32} {x2 : Int32} {x3 : Int32} {x4 : Int32} {s0 : Int32} {s1 : Int32} (h : fX12_wishAt_b56 σ I R t x1 x2 x3 x4 s0 s1 = some r9) : WX12_wishAt G l σ (σ, I, J, D, R) (some (vI r9)) (σ, I, J, D, R) 56 [(0, vR (some t)), (1, vI x1), (2, vI x2), (3, vI x3), (4, vI x4)] [vI s1, vI s0] := by
  unfold fX12_wishAt_b56 at h
  refine r_iadd (pc := 56) dX12_wishAt_56 ?_
  refine r_istore (pc := 57) (L' := [(5, vI (s0 + s1)), (0, vR (some t)), (1, vI x1), (2, vI x2), (3, vI x3), (4, vI x4)]) dX12_wishAt_57 (by decide) rfl ?_
  refine r_bipush (pc := 59) dX12_wishAt_59 kc_bipush_6 ?_
  refine r_iload_n (pc := 61) dX12_wishAt_61 rfl 2 rfl ?_
  refine r_imul (pc := 62) dX12_wishAt_62 ?_
  refine r_iload (pc := 63) dX12_wishAt_63 5 rfl ?_
  refine r_if_lt (pc := 65) (tgt := 76) dX12_wishAt_65 rfl (fun c => ?_) (fun c => ?_)
  · have h := it h c
    refine r_iconst (pc := 76) dX12_wishAt_76 kc_iconst_0 ?_
    refine r_goto (pc := 77) (tgt := 84) dX12_wishAt_77 rfl ?_
    refine r_sub [1, 3, 4, 5, 0] rfl ?_
    exact wX12_wishAt_b84 h
  · have h := ie h c
    refine r_iload (pc := 68) dX12_wishAt_68 5 rfl ?_
    refine r_iload_n (pc := 70) dX12_wishAt_70 rfl 4 rfl ?_
    refine r_iconst (pc := 71) dX12_wishAt_71 kc_iconst_1 ?_
    refine r_isub (pc := 72) dX12_wishAt_72 ?_
    refine r_icmp_ne (pc := 73) (tgt := 80) dX12_wishAt_73 rfl (fun c => ?_) (fun c => ?_)
    · have h := ie h c
      refine r_iload (pc := 80) dX12_wishAt_80 5 rfl ?_
      refine r_iconst (pc := 82) dX12_wishAt_82 kc_iconst_1 ?_
      refine r_iadd (pc := 83) dX12_wishAt_83 ?_
      refine r_sub [1, 3, 4, 5, 0] rfl ?_
      exact wX12_wishAt_b84 h
    · have h := it h c
      refine r_iconst (pc := 76) dX12_wishAt_76 kc_iconst_0 ?_
      refine r_goto (pc := 77) (tgt := 84) dX12_wishAt_77 rfl ?_
      refine r_sub [1, 3, 4, 5, 0] rfl ?_
      exact wX12_wishAt_b84 h
def fX12_wishAt_l12  (σ : Shp) (I : Nat → Nat → Int32) (R : Nat → Nat → Option Nat) (t : Nat) : Nat → (Int32) → (Int32) → (Int32) → (Int32) → Option ((Int32))
  | 0, _, _, _, _ => none
  | n + 1, x1, x2, x3, x4 =>
    if x4 < 0 then
      if 0 ≤ x4 then
        fX12_wishAt_b56 σ I R t x1 x2 x3 x4 ((6 : Int32) * x1) x4
      else
        fX12_wishAt_b56 σ I R t x1 x2 x3 x4 ((6 : Int32) * x1) (x3 - (1 : Int32))
    else
      if kdx σ t = 13 then
      ((R t 104) : Option Nat).bind fun a32 =>
      if kdx σ a32 = 20 then
      if ¬ ((((6 : Int32) * x1) + x4) < 0 ∨ lnx σ a32 ≤ Int32.toNatClampNeg (((6 : Int32) * x1) + x4)) then
      if (I a32 (Int32.toNatClampNeg (((6 : Int32) * x1) + x4))) ≤ x2 then
        if 0 ≤ x4 then
          fX12_wishAt_b56 σ I R t x1 x2 x3 x4 ((6 : Int32) * x1) x4
        else
          fX12_wishAt_b56 σ I R t x1 x2 x3 x4 ((6 : Int32) * x1) (x3 - (1 : Int32))
      else
        let v35 := x4 + (-1 : Int32)
        fX12_wishAt_l12 σ I R t n x1 x2 x3 v35
      else none
      else none
      else none
theorem wX12_wishAt_l12 {G : Gx} {l : Launch} {σ : Shp} {I : Nat → Nat → Int32} {J : Nat → Nat → Int64} {D : Nat → Nat → UInt64} {R : Nat → Nat → Option Nat} {t : Nat} {r9 : Int32} : ∀ (n : Nat) (x1 : Int32) (x2 : Int32) (x3 : Int32) (x4 : Int32), fX12_wishAt_l12 σ I R t n x1 x2 x3 x4 = some r9 → WX12_wishAt G l σ (σ, I, J, D, R) (some (vI r9)) (σ, I, J, D, R) 12 [(0, vR (some t)), (1, vI x1), (2, vI x2), (3, vI x3), (4, vI x4)] [] := by
  intro n
  induction n with
  | zero =>
    intro x1 x2 x3 x4 h
    have h : none = some _ := h
    cases h
  | succ n ih =>
    intro x1 x2 x3 x4 h
    rw [fX12_wishAt_l12] at h
    refine r_iload (pc := 12) dX12_wishAt_12 4 rfl ?_
    refine r_if_lt (pc := 14) (tgt := 39) dX12_wishAt_14 rfl (fun c => ?_) (fun c => ?_)
    · have h := it h c
      refine r_bipush (pc := 39) dX12_wishAt_39 kc_bipush_6 ?_
      refine r_iload_n (pc := 41) dX12_wishAt_41 rfl 1 rfl ?_
      refine r_imul (pc := 42) dX12_wishAt_42 ?_
      refine r_iload (pc := 43) dX12_wishAt_43 4 rfl ?_
      refine r_ifge (pc := 45) (tgt := 54) dX12_wishAt_45 rfl (fun c => ?_) (fun c => ?_)
      · have h := it h c
        refine r_iload (pc := 54) dX12_wishAt_54 4 rfl ?_
        refine r_sub [0, 1, 2, 3, 4] rfl ?_
        exact wX12_wishAt_b56 h
      · have h := ie h c
        refine r_iload_n (pc := 48) dX12_wishAt_48 rfl 3 rfl ?_
        refine r_iconst (pc := 49) dX12_wishAt_49 kc_iconst_1 ?_
        refine r_isub (pc := 50) dX12_wishAt_50 ?_
        refine r_goto (pc := 51) (tgt := 56) dX12_wishAt_51 rfl ?_
        refine r_sub [0, 1, 2, 3, 4] rfl ?_
        exact wX12_wishAt_b56 h
    · have h := ie h c
      refine r_aload_n (pc := 17) dX12_wishAt_17 rfl 0 rfl ?_
      obtain ⟨g31, h⟩ := gd h
      obtain ⟨a32, ha32, h⟩ := ob h
      refine r_getS (pc := 18) dX12_wishAt_18 fgX12_235 rfl g31 ha32 ?_
      refine r_bipush (pc := 21) dX12_wishAt_21 kc_bipush_6 ?_
      refine r_iload_n (pc := 23) dX12_wishAt_23 rfl 1 rfl ?_
      refine r_imul (pc := 24) dX12_wishAt_24 ?_
      refine r_iload (pc := 25) dX12_wishAt_25 4 rfl ?_
      refine r_iadd (pc := 27) dX12_wishAt_27 ?_
      obtain ⟨g33, h⟩ := gd h
      obtain ⟨g34, h⟩ := gd h
      refine r_iaload (pc := 28) dX12_wishAt_28 g33 g34 ?_
      refine r_iload_n (pc := 29) dX12_wishAt_29 rfl 2 rfl ?_
      refine r_icmp_le (pc := 30) (tgt := 39) dX12_wishAt_30 rfl (fun c => ?_) (fun c => ?_)
      · have h := it h c
        refine r_bipush (pc := 39) dX12_wishAt_39 kc_bipush_6 ?_
        refine r_iload_n (pc := 41) dX12_wishAt_41 rfl 1 rfl ?_
        refine r_imul (pc := 42) dX12_wishAt_42 ?_
        refine r_iload (pc := 43) dX12_wishAt_43 4 rfl ?_
        refine r_ifge (pc := 45) (tgt := 54) dX12_wishAt_45 rfl (fun c => ?_) (fun c => ?_)
        · have h := it h c
          refine r_iload (pc := 54) dX12_wishAt_54 4 rfl ?_
          refine r_sub [0, 1, 2, 3, 4] rfl ?_
          exact wX12_wishAt_b56 h
        · have h := ie h c
          refine r_iload_n (pc := 48) dX12_wishAt_48 rfl 3 rfl ?_
          refine r_iconst (pc := 49) dX12_wishAt_49 kc_iconst_1 ?_
          refine r_isub (pc := 50) dX12_wishAt_50 ?_
          refine r_goto (pc := 51) (tgt := 56) dX12_wishAt_51 rfl ?_
          refine r_sub [0, 1, 2, 3, 4] rfl ?_
          exact wX12_wishAt_b56 h
      · have h := ie h c
        refine r_iinc (pc := 33) (v := (x4 + (-1 : Int32))) (L' := [(4, vI (x4 + (-1 : Int32))), (0, vR (some t)), (1, vI x1), (2, vI x2), (3, vI x3)]) dX12_wishAt_33 4 rfl (kc_inc_m1 _) (by decide) rfl ?_
        refine r_goto (pc := 36) (tgt := 12) dX12_wishAt_36 rfl ?_
        refine r_sub [1, 2, 3, 4, 0] rfl ?_
        exact ih _ _ _ _ h
def fX12_wishAt (σ : Shp) (I : Nat → Nat → Int32) (R : Nat → Nat → Option Nat) (t : Nat) (x1 : Int32) (x2 : Int32) : Option ((Int32)) :=
  if kdx σ t = 13 then
  ((R t 103) : Option Nat).bind fun a2 =>
  if kdx σ a2 = 20 then
  if ¬ (x1 < 0 ∨ lnx σ a2 ≤ Int32.toNatClampNeg x1) then
  let v5 := (I a2 (Int32.toNatClampNeg x1))
  let v6 := (v5 - (1 : Int32))
  fX12_wishAt_l12 σ I R t FUx x1 x2 v5 v6
  else none
  else none
  else none
theorem kX12_wishAt {G : Gx} {l : Launch} {σ : Shp} {I : Nat → Nat → Int32} {J : Nat → Nat → Int64} {D : Nat → Nat → UInt64} {R : Nat → Nat → Option Nat} {t : Nat} {x1 : Int32} {x2 : Int32} {r9 : Int32} (h : fX12_wishAt σ I R t x1 x2 = some r9) : Con G l yX12_wishAt cX12_wishAt 9 (some .int) 1 25 [vR (some t), vI x1, vI x2] (σ, I, J, D, R) (σ, I, J, D, R) (some (vI r9)) := by
  unfold fX12_wishAt at h
  refine Con.mk (by decide +kernel) rfl (Nat.le_of_ble_eq_true rfl) ?_
  show WX12_wishAt G l σ (σ, I, J, D, R) (some (vI r9)) (σ, I, J, D, R) 0 _ []
  refine r_aload_n (pc := 0) dX12_wishAt_0 rfl 0 rfl ?_
  obtain ⟨g1, h⟩ := gd h
  obtain ⟨a2, ha2, h⟩ := ob h
  refine r_getS (pc := 1) dX12_wishAt_1 fgX12_232 rfl g1 ha2 ?_
  refine r_iload_n (pc := 4) dX12_wishAt_4 rfl 1 rfl ?_
  obtain ⟨g3, h⟩ := gd h
  obtain ⟨g4, h⟩ := gd h
  refine r_iaload (pc := 5) dX12_wishAt_5 g3 g4 ?_
  refine r_istore_n (pc := 6) (L' := [(3, vI (I a2 (Int32.toNatClampNeg x1))), (0, vR (some t)), (1, vI x1), (2, vI x2)]) dX12_wishAt_6 rfl (by decide) rfl ?_
  refine r_iload_n (pc := 7) dX12_wishAt_7 rfl 0 rfl ?_
  refine r_iconst (pc := 8) dX12_wishAt_8 kc_iconst_1 ?_
  refine r_isub (pc := 9) dX12_wishAt_9 ?_
  refine r_istore (pc := 10) (L' := [(4, vI ((I a2 (Int32.toNatClampNeg x1)) - (1 : Int32))), (3, vI (I a2 (Int32.toNatClampNeg x1))), (0, vR (some t)), (1, vI x1), (2, vI x2)]) dX12_wishAt_10 (by decide) rfl ?_
  refine r_sub [2, 3, 4, 1, 0] rfl ?_
  exact wX12_wishAt_l12 _ _ _ _ _ h
abbrev WX12_wish (G : Gx) (l : Launch) (σ0 : Shp) (X1 : Stt) (rv : Option SV) : Stt → Nat → List (Nat × SV) → List SV → Prop := Wm G l yX12_wish cX12_wish 3 (some .int) (fun _ => True) (rmx 2 53 σ0 X1.1) σ0 (Qmx G σ0 X1 rv)
def fX12_wish (σ : Shp) (I : Nat → Nat → Int32) (R : Nat → Nat → Option Nat) (t : Nat) (x1 : Int32) (x2 : Int32) : Option ((Int32)) :=
  if (fX12_in x1 (0 : Int32) (2 : Int32)) = 0 then
    some (-100000 : Int32)
  else
    if (fX12_in x2 (0 : Int32) (1439 : Int32)) = 0 then
      some (-100000 : Int32)
    else
      if kdx σ t = 13 then
      ((R t 103) : Option Nat).bind fun a2 =>
      if kdx σ a2 = 20 then
      if ¬ (x1 < 0 ∨ lnx σ a2 ≤ Int32.toNatClampNeg x1) then
      if (I a2 (Int32.toNatClampNeg x1)) = 0 then
        some (-100001 : Int32)
      else
        (fX12_wishAt σ I R t x1 x2).bind fun r5 =>
        some r5
      else none
      else none
      else none
theorem kX12_wish {G : Gx} {l : Launch} {σ : Shp} {I : Nat → Nat → Int32} {J : Nat → Nat → Int64} {D : Nat → Nat → UInt64} {R : Nat → Nat → Option Nat} {t : Nat} {x1 : Int32} {x2 : Int32} {r9 : Int32} (h : fX12_wish σ I R t x1 x2 = some r9) : Con G l yX12_wish cX12_wish 3 (some .int) 2 53 [vR (some t), vI x1, vI x2] (σ, I, J, D, R) (σ, I, J, D, R) (some (vI r9)) := by
  unfold fX12_wish at h
  refine Con.mk (by decide +kernel) rfl (Nat.le_of_ble_eq_true rfl) ?_
  show WX12_wish G l σ (σ, I, J, D, R) (some (vI r9)) (σ, I, J, D, R) 0 _ []
  refine r_iload_n (pc := 0) dX12_wish_0 rfl 1 rfl ?_
  refine r_iconst (pc := 1) dX12_wish_1 kc_iconst_0 ?_
  refine r_iconst (pc := 2) dX12_wish_2 kc_iconst_2 ?_
  refine r_callS1 (pc := 3) (av := [vI x1, vI (0 : Int32), vI (2 : Int32)]) (S := []) dX12_wish_3 (kX12_in rfl) mkX12_322 mwX12_in rfl ⟨Nat.le_of_ble_eq_true rfl, Nat.le_of_ble_eq_true rfl⟩ (Nat.le_of_ble_eq_true rfl) ⟨Nat.le_refl _, Nat.le_refl _⟩ (fun b => b) ?_
  refine r_if_eq (pc := 6) (tgt := 20) dX12_wish_6 rfl (fun c => ?_) (fun c => ?_)
  · have h := it h c
    refine r_ldcw (pc := 20) dX12_wish_20 ciX12_655 ?_
    cases h
    exact r_iret dX12_wish_23
  · have h := ie h c
    refine r_iload_n (pc := 9) dX12_wish_9 rfl 2 rfl ?_
    refine r_iconst (pc := 10) dX12_wish_10 kc_iconst_0 ?_
    refine r_sipush (pc := 11) dX12_wish_11 kc_sipush_1439 ?_
    refine r_callS1 (pc := 14) (av := [vI x2, vI (0 : Int32), vI (1439 : Int32)]) (S := []) dX12_wish_14 (kX12_in rfl) mkX12_322 mwX12_in rfl ⟨Nat.le_of_ble_eq_true rfl, Nat.le_of_ble_eq_true rfl⟩ (Nat.le_of_ble_eq_true rfl) ⟨Nat.le_refl _, Nat.le_refl _⟩ (fun b => b) ?_
    refine r_ifne (pc := 17) (tgt := 24) dX12_wish_17 rfl (fun c => ?_) (fun c => ?_)
    · have h := ie h c
      refine r_aload_n (pc := 24) dX12_wish_24 rfl 0 rfl ?_
      obtain ⟨g1, h⟩ := gd h
      obtain ⟨a2, ha2, h⟩ := ob h
      refine r_getS (pc := 25) dX12_wish_25 fgX12_232 rfl g1 ha2 ?_
      refine r_iload_n (pc := 28) dX12_wish_28 rfl 1 rfl ?_
      obtain ⟨g3, h⟩ := gd h
      obtain ⟨g4, h⟩ := gd h
      refine r_iaload (pc := 29) dX12_wish_29 g3 g4 ?_
      refine r_ifne (pc := 30) (tgt := 39) dX12_wish_30 rfl (fun c => ?_) (fun c => ?_)
      · have h := ie h c
        refine r_aload_n (pc := 39) dX12_wish_39 rfl 0 rfl ?_
        refine r_iload_n (pc := 40) dX12_wish_40 rfl 1 rfl ?_
        refine r_iload_n (pc := 41) dX12_wish_41 rfl 2 rfl ?_
        obtain ⟨r5, hc6, h⟩ := ob h
        refine r_callV1 (pc := 42) (av := [vI x1, vI x2]) (S := []) dX12_wish_42 (kX12_wishAt hc6) g1 rfl mkX12_661 mwX12_wishAt rfl ⟨Nat.le_of_ble_eq_true rfl, Nat.le_of_ble_eq_true rfl⟩ (Nat.le_of_ble_eq_true rfl) ⟨Nat.le_refl _, Nat.le_refl _⟩ (fun b => b) ?_
        cases h
        exact r_iret dX12_wish_45
      · have h := it h c
        refine r_ldcw (pc := 33) dX12_wish_33 ciX12_660 ?_
        refine r_goto (pc := 36) (tgt := 45) dX12_wish_36 rfl ?_
        cases h
        exact r_iret dX12_wish_45
    · have h := it h c
      refine r_ldcw (pc := 20) dX12_wish_20 ciX12_655 ?_
      cases h
      exact r_iret dX12_wish_23
abbrev WX12_toward (G : Gx) (l : Launch) (σ0 : Shp) (X1 : Stt) (rv : Option SV) : Stt → Nat → List (Nat × SV) → List SV → Prop := Wm G l yX12_toward cX12_toward 2 (some .int) (fun _ => True) (rmx 0 0 σ0 X1.1) σ0 (Qmx G σ0 X1 rv)
def fX12_toward  (x0 : Int32) (x1 : Int32) : (Int32) :=
  if x1 ≤ x0 then
    if (x0 - (10 : Int32)) ≤ x1 then
      x1
    else
      (x0 - (10 : Int32))
  else
    if x1 ≤ (x0 + (10 : Int32)) then
      x1
    else
      (x0 + (10 : Int32))
theorem kX12_toward {G : Gx} {l : Launch} {σ : Shp} {I : Nat → Nat → Int32} {J : Nat → Nat → Int64} {D : Nat → Nat → UInt64} {R : Nat → Nat → Option Nat} {x0 : Int32} {x1 : Int32} {r9 : Int32} (h : fX12_toward x0 x1 = r9) : Con G l yX12_toward cX12_toward 2 (some .int) 0 0 [vI x0, vI x1] (σ, I, J, D, R) (σ, I, J, D, R) (some (vI r9)) := by
  unfold fX12_toward at h
  refine Con.mk (by decide +kernel) rfl (Nat.le_of_ble_eq_true rfl) ?_
  show WX12_toward G l σ (σ, I, J, D, R) (some (vI r9)) (σ, I, J, D, R) 0 _ []
  refine r_iload_n (pc := 0) dX12_toward_0 rfl 0 rfl ?_
  refine r_iload_n (pc := 1) dX12_toward_1 rfl 1 rfl ?_
  refine r_icmp_ge (pc := 2) (tgt := 24) dX12_toward_2 rfl (fun c => ?_) (fun c => ?_)
  · have h := it h c
    refine r_iload_n (pc := 24) dX12_toward_24 rfl 0 rfl ?_
    refine r_bipush (pc := 25) dX12_toward_25 kc_bipush_10 ?_
    refine r_isub (pc := 27) dX12_toward_27 ?_
    refine r_iload_n (pc := 28) dX12_toward_28 rfl 1 rfl ?_
    refine r_icmp_le (pc := 29) (tgt := 39) dX12_toward_29 rfl (fun c => ?_) (fun c => ?_)
    · have h := it h c
      refine r_iload_n (pc := 39) dX12_toward_39 rfl 1 rfl ?_
      subst h
      exact r_iret dX12_toward_40
    · have h := ie h c
      refine r_iload_n (pc := 32) dX12_toward_32 rfl 0 rfl ?_
      refine r_bipush (pc := 33) dX12_toward_33 kc_bipush_10 ?_
      refine r_isub (pc := 35) dX12_toward_35 ?_
      refine r_goto (pc := 36) (tgt := 40) dX12_toward_36 rfl ?_
      subst h
      exact r_iret dX12_toward_40
  · have h := ie h c
    refine r_iload_n (pc := 5) dX12_toward_5 rfl 0 rfl ?_
    refine r_bipush (pc := 6) dX12_toward_6 kc_bipush_10 ?_
    refine r_iadd (pc := 8) dX12_toward_8 ?_
    refine r_iload_n (pc := 9) dX12_toward_9 rfl 1 rfl ?_
    refine r_icmp_ge (pc := 10) (tgt := 20) dX12_toward_10 rfl (fun c => ?_) (fun c => ?_)
    · have h := it h c
      refine r_iload_n (pc := 20) dX12_toward_20 rfl 1 rfl ?_
      refine r_goto (pc := 21) (tgt := 40) dX12_toward_21 rfl ?_
      subst h
      exact r_iret dX12_toward_40
    · have h := ie h c
      refine r_iload_n (pc := 13) dX12_toward_13 rfl 0 rfl ?_
      refine r_bipush (pc := 14) dX12_toward_14 kc_bipush_10 ?_
      refine r_iadd (pc := 16) dX12_toward_16 ?_
      refine r_goto (pc := 17) (tgt := 40) dX12_toward_17 rfl ?_
      subst h
      exact r_iret dX12_toward_40
abbrev WX12_within (G : Gx) (l : Launch) (σ0 : Shp) (X1 : Stt) (rv : Option SV) : Stt → Nat → List (Nat × SV) → List SV → Prop := Wm G l yX12_within cX12_within 4 (some .long) (fun _ => True) (rmx 0 0 σ0 X1.1) σ0 (Qmx G σ0 X1 rv)
def fX12_within  (x0 : Int64) (x2 : Int64) : (Int64) :=
  if (-x2) ≤ x0 then
    if x0 ≤ x2 then
      x0
    else
      x2
  else
    (-x2)
theorem kX12_within {G : Gx} {l : Launch} {σ : Shp} {I : Nat → Nat → Int32} {J : Nat → Nat → Int64} {D : Nat → Nat → UInt64} {R : Nat → Nat → Option Nat} {x0 : Int64} {x2 : Int64} {r9 : Int64} (h : fX12_within x0 x2 = r9) : Con G l yX12_within cX12_within 4 (some .long) 0 0 [vL x0, vL x2] (σ, I, J, D, R) (σ, I, J, D, R) (some (vL r9)) := by
  unfold fX12_within at h
  refine Con.mk (by decide +kernel) rfl (Nat.le_of_ble_eq_true rfl) ?_
  show WX12_within G l σ (σ, I, J, D, R) (some (vL r9)) (σ, I, J, D, R) 0 _ []
  refine r_lload_n (pc := 0) dX12_within_0 rfl 0 rfl ?_
  refine r_lload_n (pc := 1) dX12_within_1 rfl 1 rfl ?_
  refine r_lneg (pc := 2) dX12_within_2 ?_
  refine r_lcmp (pc := 3) dX12_within_3 ?_
  refine r_ifge (pc := 4) (tgt := 12) dX12_within_4 rfl (fun c => ?_) (fun c => ?_)
  · have h := it h (lgc_ge.mp c)
    refine r_lload_n (pc := 12) dX12_within_12 rfl 0 rfl ?_
    refine r_lload_n (pc := 13) dX12_within_13 rfl 1 rfl ?_
    refine r_lcmp (pc := 14) dX12_within_14 ?_
    refine r_if_le (pc := 15) (tgt := 22) dX12_within_15 rfl (fun c => ?_) (fun c => ?_)
    · have h := it h (lgc_le.mp c)
      refine r_lload_n (pc := 22) dX12_within_22 rfl 0 rfl ?_
      subst h
      exact r_lret dX12_within_23
    · have h := ie h (fun q => c (lgc_le.mpr q))
      refine r_lload_n (pc := 18) dX12_within_18 rfl 1 rfl ?_
      refine r_goto (pc := 19) (tgt := 23) dX12_within_19 rfl ?_
      subst h
      exact r_lret dX12_within_23
  · have h := ie h (fun q => c (lgc_ge.mpr q))
    refine r_lload_n (pc := 7) dX12_within_7 rfl 1 rfl ?_
    refine r_lneg (pc := 8) dX12_within_8 ?_
    refine r_goto (pc := 9) (tgt := 23) dX12_within_9 rfl ?_
    subst h
    exact r_lret dX12_within_23
abbrev WX12_steer (G : Gx) (l : Launch) (σ0 : Shp) (X1 : Stt) (rv : Option SV) : Stt → Nat → List (Nat × SV) → List SV → Prop := Wm G l yX12_steer cX12_steer 12 none (fun _ => True) (rmx 3 75 σ0 X1.1) σ0 (Qmx G σ0 X1 rv)
def fX12_steer_b340  (σ : Shp) (J : Nat → Nat → Int64) (R : Nat → Nat → Option Nat) (t : Nat) (I : Nat → Nat → Int32) (x1 : Int32) (x2 : Int32) : Option ((Nat → Nat → Int32)) :=
  if kdx σ t = 13 then
  ((R t 96) : Option Nat).bind fun a22 =>
  if kdx σ a22 = 20 then
  if ¬ ((4 : Int32) < 0 ∨ lnx σ a22 ≤ Int32.toNatClampNeg (4 : Int32)) then
  if (I a22 (Int32.toNatClampNeg (4 : Int32))) = (1 : Int32) then
    ((R t 99) : Option Nat).bind fun a25 =>
    if kdx σ a25 = 20 then
    if ¬ (x1 < 0 ∨ lnx σ a25 ≤ Int32.toNatClampNeg x1) then
    if (I a25 (Int32.toNatClampNeg x1)) ≤ (20 : Int32) then
      some I
    else
      if (x2 - (10 : Int32)) ≤ (20 : Int32) then
        let I28 := u2 I a25 (Int32.toNatClampNeg x1) (20 : Int32)
        some I28
      else
        let I29 := u2 I a25 (Int32.toNatClampNeg x1) (x2 - (10 : Int32))
        some I29
    else none
    else none
  else
    some I
  else none
  else none
  else none
theorem wX12_steer_b340 {G : Gx} {l : Launch} {σ : Shp} {I : Nat → Nat → Int32} {J : Nat → Nat → Int64} {D : Nat → Nat → UInt64} {R : Nat → Nat → Option Nat} {t : Nat} {I9 : Nat → Nat → Int32} {x1 : Int32} {x2 : Int32} (h : fX12_steer_b340 σ J R t I x1 x2 = some I9) : WX12_steer G l σ (σ, I9, J, D, R) none (σ, I, J, D, R) 340 [(0, vR (some t)), (1, vI x1), (2, vI x2)] [] := by
  unfold fX12_steer_b340 at h
  refine r_aload_n (pc := 340) dX12_steer_340 rfl 0 rfl ?_
  obtain ⟨g21, h⟩ := gd h
  obtain ⟨a22, ha22, h⟩ := ob h
  refine r_getS (pc := 341) dX12_steer_341 fgX12_207 rfl g21 ha22 ?_
  refine r_iconst (pc := 344) dX12_steer_344 kc_iconst_4 ?_
  obtain ⟨g23, h⟩ := gd h
  obtain ⟨g24, h⟩ := gd h
  refine r_iaload (pc := 345) dX12_steer_345 g23 g24 ?_
  refine r_iconst (pc := 346) dX12_steer_346 kc_iconst_1 ?_
  refine r_icmp_ne (pc := 347) (tgt := 385) dX12_steer_347 rfl (fun c => ?_) (fun c => ?_)
  · have h := ie h c
    cases h
    exact r_vret dX12_steer_385
  · have h := it h c
    refine r_aload_n (pc := 350) dX12_steer_350 rfl 0 rfl ?_
    obtain ⟨a25, ha25, h⟩ := ob h
    refine r_getS (pc := 351) dX12_steer_351 fgX12_220 rfl g21 ha25 ?_
    refine r_iload_n (pc := 354) dX12_steer_354 rfl 1 rfl ?_
    obtain ⟨g26, h⟩ := gd h
    obtain ⟨g27, h⟩ := gd h
    refine r_iaload (pc := 355) dX12_steer_355 g26 g27 ?_
    refine r_bipush (pc := 356) dX12_steer_356 kc_bipush_20 ?_
    refine r_icmp_le (pc := 358) (tgt := 385) dX12_steer_358 rfl (fun c => ?_) (fun c => ?_)
    · have h := it h c
      cases h
      exact r_vret dX12_steer_385
    · have h := ie h c
      refine r_aload_n (pc := 361) dX12_steer_361 rfl 0 rfl ?_
      refine r_getS (pc := 362) dX12_steer_362 fgX12_220 rfl g21 ha25 ?_
      refine r_iload_n (pc := 365) dX12_steer_365 rfl 1 rfl ?_
      refine r_iload_n (pc := 366) dX12_steer_366 rfl 2 rfl ?_
      refine r_bipush (pc := 367) dX12_steer_367 kc_bipush_10 ?_
      refine r_isub (pc := 369) dX12_steer_369 ?_
      refine r_bipush (pc := 370) dX12_steer_370 kc_bipush_20 ?_
      refine r_icmp_le (pc := 372) (tgt := 382) dX12_steer_372 rfl (fun c => ?_) (fun c => ?_)
      · have h := it h c
        refine r_bipush (pc := 382) dX12_steer_382 kc_bipush_20 ?_
        refine r_iastore (pc := 384) dX12_steer_384 g26 g27 ?_
        cases h
        exact r_vret dX12_steer_385
      · have h := ie h c
        refine r_iload_n (pc := 375) dX12_steer_375 rfl 2 rfl ?_
        refine r_bipush (pc := 376) dX12_steer_376 kc_bipush_10 ?_
        refine r_isub (pc := 378) dX12_steer_378 ?_
        refine r_goto (pc := 379) (tgt := 384) dX12_steer_379 rfl ?_
        refine r_iastore (pc := 384) dX12_steer_384 g26 g27 ?_
        cases h
        exact r_vret dX12_steer_385
def fX12_steer_b51  (σ : Shp) (J : Nat → Nat → Int64) (R : Nat → Nat → Option Nat) (t : Nat) (I : Nat → Nat → Int32) (x1 : Int32) (x2 : Int32) : Option ((Nat → Nat → Int32)) :=
  if kdx σ t = 13 then
  ((R t 99) : Option Nat).bind fun a13 =>
  if kdx σ a13 = 20 then
  if ¬ (x1 < 0 ∨ lnx σ a13 ≤ Int32.toNatClampNeg x1) then
  let I16 := u2 I a13 (Int32.toNatClampNeg x1) (fX12_toward x2 (10 : Int32))
  ((R t 100) : Option Nat).bind fun a17 =>
  if kdx σ a17 = 20 then
  if ¬ (x1 < 0 ∨ lnx σ a17 ≤ Int32.toNatClampNeg x1) then
  let I20 := u2 I16 a17 (Int32.toNatClampNeg x1) (fX12_toward (I16 a17 (Int32.toNatClampNeg x1)) (30 : Int32))
  fX12_steer_b340 σ J R t I20 x1 x2
  else none
  else none
  else none
  else none
  else none
theorem wX12_steer_b51 {G : Gx} {l : Launch} {σ : Shp} {I : Nat → Nat → Int32} {J : Nat → Nat → Int64} {D : Nat → Nat → UInt64} {R : Nat → Nat → Option Nat} {t : Nat} {I9 : Nat → Nat → Int32} {x1 : Int32} {x2 : Int32} (h : fX12_steer_b51 σ J R t I x1 x2 = some I9) : WX12_steer G l σ (σ, I9, J, D, R) none (σ, I, J, D, R) 51 [(0, vR (some t)), (1, vI x1), (2, vI x2)] [] := by
  unfold fX12_steer_b51 at h
  refine r_aload_n (pc := 51) dX12_steer_51 rfl 0 rfl ?_
  obtain ⟨g12, h⟩ := gd h
  obtain ⟨a13, ha13, h⟩ := ob h
  refine r_getS (pc := 52) dX12_steer_52 fgX12_220 rfl g12 ha13 ?_
  refine r_iload_n (pc := 55) dX12_steer_55 rfl 1 rfl ?_
  refine r_iload_n (pc := 56) dX12_steer_56 rfl 2 rfl ?_
  refine r_bipush (pc := 57) dX12_steer_57 kc_bipush_10 ?_
  refine r_callS1 (pc := 59) (av := [vI x2, vI (10 : Int32)]) (S := [vI x1, vR (some a13)]) dX12_steer_59 (kX12_toward rfl) mkX12_664 mwX12_toward rfl ⟨Nat.le_of_ble_eq_true rfl, Nat.le_of_ble_eq_true rfl⟩ (Nat.le_of_ble_eq_true rfl) ⟨Nat.le_refl _, Nat.le_refl _⟩ (fun b => b) ?_
  obtain ⟨g14, h⟩ := gd h
  obtain ⟨g15, h⟩ := gd h
  refine r_iastore (pc := 62) dX12_steer_62 g14 g15 ?_
  refine r_aload_n (pc := 63) dX12_steer_63 rfl 0 rfl ?_
  obtain ⟨a17, ha17, h⟩ := ob h
  refine r_getS (pc := 64) dX12_steer_64 fgX12_223 rfl g12 ha17 ?_
  refine r_iload_n (pc := 67) dX12_steer_67 rfl 1 rfl ?_
  refine r_aload_n (pc := 68) dX12_steer_68 rfl 0 rfl ?_
  refine r_getS (pc := 69) dX12_steer_69 fgX12_223 rfl g12 ha17 ?_
  refine r_iload_n (pc := 72) dX12_steer_72 rfl 1 rfl ?_
  obtain ⟨g18, h⟩ := gd h
  obtain ⟨g19, h⟩ := gd h
  refine r_iaload (pc := 73) dX12_steer_73 g18 g19 ?_
  refine r_bipush (pc := 74) dX12_steer_74 kc_bipush_30 ?_
  refine r_callS1 (pc := 76) (av := [vI ((u2 I a13 (Int32.toNatClampNeg x1) (fX12_toward x2 (10 : Int32))) a17 (Int32.toNatClampNeg x1)), vI (30 : Int32)]) (S := [vI x1, vR (some a17)]) dX12_steer_76 (kX12_toward rfl) mkX12_664 mwX12_toward rfl ⟨Nat.le_of_ble_eq_true rfl, Nat.le_of_ble_eq_true rfl⟩ (Nat.le_of_ble_eq_true rfl) ⟨Nat.le_refl _, Nat.le_refl _⟩ (fun b => b) ?_
  refine r_iastore (pc := 79) dX12_steer_79 g18 g19 ?_
  refine r_goto (pc := 80) (tgt := 340) dX12_steer_80 rfl ?_
  refine r_sub [0, 1, 2] rfl ?_
  exact wX12_steer_b340 h
def fX12_steer_b233  (σ : Shp) (J : Nat → Nat → Int64) (R : Nat → Nat → Option Nat) (t : Nat) (I : Nat → Nat → Int32) (x1 : Int32) (x2 : Int32) (x7 : Int32) (x8 : Int32) (s0 : Int32) : Option ((Nat → Nat → Int32)) :=
  let v50 := (x8 - s0)
  if x7 ≤ 0 then
    if kdx σ t = 13 then
    ((R t 99) : Option Nat).bind fun a52 =>
    if kdx σ a52 = 20 then
    if ¬ (x1 < 0 ∨ lnx σ a52 ≤ Int32.toNatClampNeg x1) then
    let I55 := u2 I a52 (Int32.toNatClampNeg x1) ((I a52 (Int32.toNatClampNeg x1)) - s0)
    ((R t 100) : Option Nat).bind fun a56 =>
    if kdx σ a56 = 20 then
    if ¬ (x1 < 0 ∨ lnx σ a56 ≤ Int32.toNatClampNeg x1) then
    if ((I55 a56 (Int32.toNatClampNeg x1)) + v50) ≤ (100 : Int32) then
      let I59 := u2 I55 a56 (Int32.toNatClampNeg x1) ((I55 a56 (Int32.toNatClampNeg x1)) + v50)
      fX12_steer_b340 σ J R t I59 x1 x2
    else
      let I60 := u2 I55 a56 (Int32.toNatClampNeg x1) (100 : Int32)
      fX12_steer_b340 σ J R t I60 x1 x2
    else none
    else none
    else none
    else none
    else none
  else
    if kdx σ t = 13 then
    ((R t 100) : Option Nat).bind fun a62 =>
    if kdx σ a62 = 20 then
    if ¬ (x1 < 0 ∨ lnx σ a62 ≤ Int32.toNatClampNeg x1) then
    let I65 := u2 I a62 (Int32.toNatClampNeg x1) ((I a62 (Int32.toNatClampNeg x1)) - s0)
    ((R t 99) : Option Nat).bind fun a66 =>
    if kdx σ a66 = 20 then
    if ¬ (x1 < 0 ∨ lnx σ a66 ≤ Int32.toNatClampNeg x1) then
    if ((I65 a66 (Int32.toNatClampNeg x1)) + v50) ≤ (100 : Int32) then
      let I69 := u2 I65 a66 (Int32.toNatClampNeg x1) ((I65 a66 (Int32.toNatClampNeg x1)) + v50)
      fX12_steer_b340 σ J R t I69 x1 x2
    else
      let I70 := u2 I65 a66 (Int32.toNatClampNeg x1) (100 : Int32)
      fX12_steer_b340 σ J R t I70 x1 x2
    else none
    else none
    else none
    else none
    else none
theorem wX12_steer_b233 {G : Gx} {l : Launch} {σ : Shp} {I : Nat → Nat → Int32} {J : Nat → Nat → Int64} {D : Nat → Nat → UInt64} {R : Nat → Nat → Option Nat} {t : Nat} {I9 : Nat → Nat → Int32} {x1 : Int32} {x2 : Int32} {x7 : Int32} {x8 : Int32} {s0 : Int32} (h : fX12_steer_b233 σ J R t I x1 x2 x7 x8 s0 = some I9) : WX12_steer G l σ (σ, I9, J, D, R) none (σ, I, J, D, R) 233 [(0, vR (some t)), (1, vI x1), (2, vI x2), (7, vI x7), (8, vI x8)] [vI s0] := by
  unfold fX12_steer_b233 at h
  refine r_istore (pc := 233) (L' := [(10, vI s0), (0, vR (some t)), (1, vI x1), (2, vI x2), (7, vI x7), (8, vI x8)]) dX12_steer_233 (by decide) rfl ?_
  refine r_iload (pc := 235) dX12_steer_235 5 rfl ?_
  refine r_iload (pc := 237) dX12_steer_237 0 rfl ?_
  refine r_isub (pc := 239) dX12_steer_239 ?_
  refine r_istore (pc := 240) (L' := [(11, vI (x8 - s0)), (10, vI s0), (0, vR (some t)), (1, vI x1), (2, vI x2), (7, vI x7), (8, vI x8)]) dX12_steer_240 (by decide) rfl ?_
  refine r_iload (pc := 242) dX12_steer_242 5 rfl ?_
  refine r_if_le (pc := 244) (tgt := 295) dX12_steer_244 rfl (fun c => ?_) (fun c => ?_)
  · have h := it h c
    refine r_aload_n (pc := 295) dX12_steer_295 rfl 2 rfl ?_
    obtain ⟨g51, h⟩ := gd h
    obtain ⟨a52, ha52, h⟩ := ob h
    refine r_getS (pc := 296) dX12_steer_296 fgX12_220 rfl g51 ha52 ?_
    refine r_iload_n (pc := 299) dX12_steer_299 rfl 3 rfl ?_
    refine r_dup2 (pc := 300) dX12_steer_300 rfl rfl ?_
    obtain ⟨g53, h⟩ := gd h
    obtain ⟨g54, h⟩ := gd h
    refine r_iaload (pc := 301) dX12_steer_301 g53 g54 ?_
    refine r_iload (pc := 302) dX12_steer_302 1 rfl ?_
    refine r_isub (pc := 304) dX12_steer_304 ?_
    refine r_iastore (pc := 305) dX12_steer_305 g53 g54 ?_
    refine r_aload_n (pc := 306) dX12_steer_306 rfl 2 rfl ?_
    obtain ⟨a56, ha56, h⟩ := ob h
    refine r_getS (pc := 307) dX12_steer_307 fgX12_223 rfl g51 ha56 ?_
    refine r_iload_n (pc := 310) dX12_steer_310 rfl 3 rfl ?_
    refine r_aload_n (pc := 311) dX12_steer_311 rfl 2 rfl ?_
    refine r_getS (pc := 312) dX12_steer_312 fgX12_223 rfl g51 ha56 ?_
    refine r_iload_n (pc := 315) dX12_steer_315 rfl 3 rfl ?_
    obtain ⟨g57, h⟩ := gd h
    obtain ⟨g58, h⟩ := gd h
    refine r_iaload (pc := 316) dX12_steer_316 g57 g58 ?_
    refine r_iload (pc := 317) dX12_steer_317 0 rfl ?_
    refine r_iadd (pc := 319) dX12_steer_319 ?_
    refine r_bipush (pc := 320) dX12_steer_320 kc_bipush_100 ?_
    refine r_icmp_le (pc := 322) (tgt := 330) dX12_steer_322 rfl (fun c => ?_) (fun c => ?_)
    · have h := it h c
      refine r_aload_n (pc := 330) dX12_steer_330 rfl 2 rfl ?_
      refine r_getS (pc := 331) dX12_steer_331 fgX12_223 rfl g51 ha56 ?_
      refine r_iload_n (pc := 334) dX12_steer_334 rfl 3 rfl ?_
      refine r_iaload (pc := 335) dX12_steer_335 g57 g58 ?_
      refine r_iload (pc := 336) dX12_steer_336 0 rfl ?_
      refine r_iadd (pc := 338) dX12_steer_338 ?_
      refine r_iastore (pc := 339) dX12_steer_339 g57 g58 ?_
      refine r_sub [2, 3, 4] rfl ?_
      exact wX12_steer_b340 h
    · have h := ie h c
      refine r_bipush (pc := 325) dX12_steer_325 kc_bipush_100 ?_
      refine r_goto (pc := 327) (tgt := 339) dX12_steer_327 rfl ?_
      refine r_iastore (pc := 339) dX12_steer_339 g57 g58 ?_
      refine r_sub [2, 3, 4] rfl ?_
      exact wX12_steer_b340 h
  · have h := ie h c
    refine r_aload_n (pc := 247) dX12_steer_247 rfl 2 rfl ?_
    obtain ⟨g61, h⟩ := gd h
    obtain ⟨a62, ha62, h⟩ := ob h
    refine r_getS (pc := 248) dX12_steer_248 fgX12_223 rfl g61 ha62 ?_
    refine r_iload_n (pc := 251) dX12_steer_251 rfl 3 rfl ?_
    refine r_dup2 (pc := 252) dX12_steer_252 rfl rfl ?_
    obtain ⟨g63, h⟩ := gd h
    obtain ⟨g64, h⟩ := gd h
    refine r_iaload (pc := 253) dX12_steer_253 g63 g64 ?_
    refine r_iload (pc := 254) dX12_steer_254 1 rfl ?_
    refine r_isub (pc := 256) dX12_steer_256 ?_
    refine r_iastore (pc := 257) dX12_steer_257 g63 g64 ?_
    refine r_aload_n (pc := 258) dX12_steer_258 rfl 2 rfl ?_
    obtain ⟨a66, ha66, h⟩ := ob h
    refine r_getS (pc := 259) dX12_steer_259 fgX12_220 rfl g61 ha66 ?_
    refine r_iload_n (pc := 262) dX12_steer_262 rfl 3 rfl ?_
    refine r_aload_n (pc := 263) dX12_steer_263 rfl 2 rfl ?_
    refine r_getS (pc := 264) dX12_steer_264 fgX12_220 rfl g61 ha66 ?_
    refine r_iload_n (pc := 267) dX12_steer_267 rfl 3 rfl ?_
    obtain ⟨g67, h⟩ := gd h
    obtain ⟨g68, h⟩ := gd h
    refine r_iaload (pc := 268) dX12_steer_268 g67 g68 ?_
    refine r_iload (pc := 269) dX12_steer_269 0 rfl ?_
    refine r_iadd (pc := 271) dX12_steer_271 ?_
    refine r_bipush (pc := 272) dX12_steer_272 kc_bipush_100 ?_
    refine r_icmp_le (pc := 274) (tgt := 282) dX12_steer_274 rfl (fun c => ?_) (fun c => ?_)
    · have h := it h c
      refine r_aload_n (pc := 282) dX12_steer_282 rfl 2 rfl ?_
      refine r_getS (pc := 283) dX12_steer_283 fgX12_220 rfl g61 ha66 ?_
      refine r_iload_n (pc := 286) dX12_steer_286 rfl 3 rfl ?_
      refine r_iaload (pc := 287) dX12_steer_287 g67 g68 ?_
      refine r_iload (pc := 288) dX12_steer_288 0 rfl ?_
      refine r_iadd (pc := 290) dX12_steer_290 ?_
      refine r_iastore (pc := 291) dX12_steer_291 g67 g68 ?_
      refine r_goto (pc := 292) (tgt := 340) dX12_steer_292 rfl ?_
      refine r_sub [2, 3, 4] rfl ?_
      exact wX12_steer_b340 h
    · have h := ie h c
      refine r_bipush (pc := 277) dX12_steer_277 kc_bipush_100 ?_
      refine r_goto (pc := 279) (tgt := 291) dX12_steer_279 rfl ?_
      refine r_iastore (pc := 291) dX12_steer_291 g67 g68 ?_
      refine r_goto (pc := 292) (tgt := 340) dX12_steer_292 rfl ?_
      refine r_sub [2, 3, 4] rfl ?_
      exact wX12_steer_b340 h
def fX12_steer_b195  (σ : Shp) (J : Nat → Nat → Int64) (R : Nat → Nat → Option Nat) (t : Nat) (I : Nat → Nat → Int32) (x1 : Int32) (x2 : Int32) (x7 : Int32) (s0 : Int32) : Option ((Nat → Nat → Int32)) :=
  if x7 ≤ 0 then
    if kdx σ t = 13 then
    ((R t 99) : Option Nat).bind fun a46 =>
    if kdx σ a46 = 20 then
    if ¬ (x1 < 0 ∨ lnx σ a46 ≤ Int32.toNatClampNeg x1) then
    let v49 := (I a46 (Int32.toNatClampNeg x1))
    if s0 ≤ v49 then
      fX12_steer_b233 σ J R t I x1 x2 x7 s0 s0
    else
      fX12_steer_b233 σ J R t I x1 x2 x7 s0 v49
    else none
    else none
    else none
  else
    if kdx σ t = 13 then
    ((R t 100) : Option Nat).bind fun a72 =>
    if kdx σ a72 = 20 then
    if ¬ (x1 < 0 ∨ lnx σ a72 ≤ Int32.toNatClampNeg x1) then
    let v75 := (I a72 (Int32.toNatClampNeg x1))
    if s0 ≤ v75 then
      fX12_steer_b233 σ J R t I x1 x2 x7 s0 s0
    else
      fX12_steer_b233 σ J R t I x1 x2 x7 s0 v75
    else none
    else none
    else none
theorem wX12_steer_b195 {G : Gx} {l : Launch} {σ : Shp} {I : Nat → Nat → Int32} {J : Nat → Nat → Int64} {D : Nat → Nat → UInt64} {R : Nat → Nat → Option Nat} {t : Nat} {I9 : Nat → Nat → Int32} {x1 : Int32} {x2 : Int32} {x7 : Int32} {s0 : Int32} (h : fX12_steer_b195 σ J R t I x1 x2 x7 s0 = some I9) : WX12_steer G l σ (σ, I9, J, D, R) none (σ, I, J, D, R) 195 [(0, vR (some t)), (1, vI x1), (2, vI x2), (7, vI x7)] [vI s0] := by
  unfold fX12_steer_b195 at h
  refine r_istore (pc := 195) (L' := [(8, vI s0), (0, vR (some t)), (1, vI x1), (2, vI x2), (7, vI x7)]) dX12_steer_195 (by decide) rfl ?_
  refine r_iload (pc := 197) dX12_steer_197 4 rfl ?_
  refine r_if_le (pc := 199) (tgt := 211) dX12_steer_199 rfl (fun c => ?_) (fun c => ?_)
  · have h := it h c
    refine r_aload_n (pc := 211) dX12_steer_211 rfl 1 rfl ?_
    obtain ⟨g45, h⟩ := gd h
    obtain ⟨a46, ha46, h⟩ := ob h
    refine r_getS (pc := 212) dX12_steer_212 fgX12_220 rfl g45 ha46 ?_
    refine r_iload_n (pc := 215) dX12_steer_215 rfl 2 rfl ?_
    obtain ⟨g47, h⟩ := gd h
    obtain ⟨g48, h⟩ := gd h
    refine r_iaload (pc := 216) dX12_steer_216 g47 g48 ?_
    refine r_istore (pc := 217) (L' := [(9, vI (I a46 (Int32.toNatClampNeg x1))), (8, vI s0), (0, vR (some t)), (1, vI x1), (2, vI x2), (7, vI x7)]) dX12_steer_217 (by decide) rfl ?_
    refine r_iload (pc := 219) dX12_steer_219 0 rfl ?_
    refine r_iload (pc := 221) dX12_steer_221 1 rfl ?_
    refine r_icmp_ge (pc := 223) (tgt := 231) dX12_steer_223 rfl (fun c => ?_) (fun c => ?_)
    · have h := it h c
      refine r_iload (pc := 231) dX12_steer_231 1 rfl ?_
      refine r_sub [2, 3, 4, 5, 1] rfl ?_
      exact wX12_steer_b233 h
    · have h := ie h c
      refine r_iload (pc := 226) dX12_steer_226 0 rfl ?_
      refine r_goto (pc := 228) (tgt := 233) dX12_steer_228 rfl ?_
      refine r_sub [2, 3, 4, 5, 1] rfl ?_
      exact wX12_steer_b233 h
  · have h := ie h c
    refine r_aload_n (pc := 202) dX12_steer_202 rfl 1 rfl ?_
    obtain ⟨g71, h⟩ := gd h
    obtain ⟨a72, ha72, h⟩ := ob h
    refine r_getS (pc := 203) dX12_steer_203 fgX12_223 rfl g71 ha72 ?_
    refine r_iload_n (pc := 206) dX12_steer_206 rfl 2 rfl ?_
    obtain ⟨g73, h⟩ := gd h
    obtain ⟨g74, h⟩ := gd h
    refine r_iaload (pc := 207) dX12_steer_207 g73 g74 ?_
    refine r_goto (pc := 208) (tgt := 217) dX12_steer_208 rfl ?_
    refine r_istore (pc := 217) (L' := [(9, vI (I a72 (Int32.toNatClampNeg x1))), (8, vI s0), (0, vR (some t)), (1, vI x1), (2, vI x2), (7, vI x7)]) dX12_steer_217 (by decide) rfl ?_
    refine r_iload (pc := 219) dX12_steer_219 0 rfl ?_
    refine r_iload (pc := 221) dX12_steer_221 1 rfl ?_
    refine r_icmp_ge (pc := 223) (tgt := 231) dX12_steer_223 rfl (fun c => ?_) (fun c => ?_)
    · have h := it h c
      refine r_iload (pc := 231) dX12_steer_231 1 rfl ?_
      refine r_sub [2, 3, 4, 5, 1] rfl ?_
      exact wX12_steer_b233 h
    · have h := ie h c
      refine r_iload (pc := 226) dX12_steer_226 0 rfl ?_
      refine r_goto (pc := 228) (tgt := 233) dX12_steer_228 rfl ?_
      refine r_sub [2, 3, 4, 5, 1] rfl ?_
      exact wX12_steer_b233 h
def fX12_steer (σ : Shp) (I : Nat → Nat → Int32) (J : Nat → Nat → Int64) (R : Nat → Nat → Option Nat) (t : Nat) (x1 : Int32) : Option ((Nat → Nat → Int32)) :=
  if kdx σ t = 13 then
  ((R t 99) : Option Nat).bind fun a2 =>
  if kdx σ a2 = 20 then
  if ¬ (x1 < 0 ∨ lnx σ a2 ≤ Int32.toNatClampNeg x1) then
  let v5 := (I a2 (Int32.toNatClampNeg x1))
  ((R t 96) : Option Nat).bind fun a6 =>
  if kdx σ a6 = 20 then
  if ¬ ((3 : Int32) < 0 ∨ lnx σ a6 ≤ Int32.toNatClampNeg (3 : Int32)) then
  if (I a6 (Int32.toNatClampNeg (3 : Int32))) = (1 : Int32) then
    let I76 := u2 I a2 (Int32.toNatClampNeg x1) (fX12_toward v5 (0 : Int32))
    some I76
  else
    ((R t 95) : Option Nat).bind fun a9 =>
    if kdx σ a9 = 21 then
    if ¬ (x1 < 0 ∨ lnx σ a9 ≤ Int32.toNatClampNeg x1) then
    if (J a9 (Int32.toNatClampNeg x1)) = (9221120237041090560 : Int64) then
      fX12_steer_b51 σ J R t I x1 v5
    else
      ((R t 103) : Option Nat).bind fun a30 =>
      if kdx σ a30 = 20 then
      if ¬ (x1 < 0 ∨ lnx σ a30 ≤ Int32.toNatClampNeg x1) then
      if (I a30 (Int32.toNatClampNeg x1)) = 0 then
        fX12_steer_b51 σ J R t I x1 v5
      else
        (fX12_fromBits (J a9 (Int32.toNatClampNeg x1))).bind fun r33 =>
        if (FP.dmul r33 (4652007308841189376 : UInt64)) &&& 0x7fffffffffffffff ≤ 0x7ff0000000000000 then
        let v36 := (fX12_within (FP.d2l (FP.dmul r33 (4652007308841189376 : UInt64))) (1000000000 : Int64))
        (fX12_wishAt σ I R t x1 ((I t 85) - (I t 85) / (1440 : Int32) * (1440 : Int32))).bind fun r37 =>
        let v39 := (fX12_within (v36 - (Int32.toInt64 r37)) (100000 : Int64))
        ((R t 101) : Option Nat).bind fun a40 =>
        if kdx σ a40 = 20 then
        if ¬ (x1 < 0 ∨ lnx σ a40 ≤ Int32.toNatClampNeg x1) then
        let I43 := u2 I a40 (Int32.toNatClampNeg x1) (Int64.toInt32 (fX12_within ((Int32.toInt64 (I a40 (Int32.toNatClampNeg x1))) + (v39 / (16 : Int64))) (4000 : Int64)))
        let v44 := (Int64.toInt32 (fX12_within ((v39 / (400 : Int64)) + (Int32.toInt64 ((I43 a40 (Int32.toNatClampNeg x1)) / (500 : Int32)))) (10 : Int64)))
        if 0 ≤ v44 then
          fX12_steer_b195 σ J R t I43 x1 v5 v44 v44
        else
          fX12_steer_b195 σ J R t I43 x1 v5 v44 (-v44)
        else none
        else none
        else none
      else none
      else none
    else none
    else none
  else none
  else none
  else none
  else none
  else none
theorem kX12_steer {G : Gx} {l : Launch} {σ : Shp} {I : Nat → Nat → Int32} {J : Nat → Nat → Int64} {D : Nat → Nat → UInt64} {R : Nat → Nat → Option Nat} {t : Nat} {x1 : Int32} {I9 : Nat → Nat → Int32} (h : fX12_steer σ I J R t x1 = some I9) : Con G l yX12_steer cX12_steer 12 none 3 75 [vR (some t), vI x1] (σ, I, J, D, R) (σ, I9, J, D, R) none := by
  unfold fX12_steer at h
  refine Con.mk (by decide +kernel) rfl (Nat.le_of_ble_eq_true rfl) ?_
  show WX12_steer G l σ (σ, I9, J, D, R) none (σ, I, J, D, R) 0 _ []
  refine r_aload_n (pc := 0) dX12_steer_0 rfl 0 rfl ?_
  obtain ⟨g1, h⟩ := gd h
  obtain ⟨a2, ha2, h⟩ := ob h
  refine r_getS (pc := 1) dX12_steer_1 fgX12_220 rfl g1 ha2 ?_
  refine r_iload_n (pc := 4) dX12_steer_4 rfl 1 rfl ?_
  obtain ⟨g3, h⟩ := gd h
  obtain ⟨g4, h⟩ := gd h
  refine r_iaload (pc := 5) dX12_steer_5 g3 g4 ?_
  refine r_istore_n (pc := 6) (L' := [(2, vI (I a2 (Int32.toNatClampNeg x1))), (0, vR (some t)), (1, vI x1)]) dX12_steer_6 rfl (by decide) rfl ?_
  refine r_aload_n (pc := 7) dX12_steer_7 rfl 1 rfl ?_
  obtain ⟨a6, ha6, h⟩ := ob h
  refine r_getS (pc := 8) dX12_steer_8 fgX12_207 rfl g1 ha6 ?_
  refine r_iconst (pc := 11) dX12_steer_11 kc_iconst_3 ?_
  obtain ⟨g7, h⟩ := gd h
  obtain ⟨g8, h⟩ := gd h
  refine r_iaload (pc := 12) dX12_steer_12 g7 g8 ?_
  refine r_iconst (pc := 13) dX12_steer_13 kc_iconst_1 ?_
  refine r_icmp_ne (pc := 14) (tgt := 29) dX12_steer_14 rfl (fun c => ?_) (fun c => ?_)
  · have h := ie h c
    refine r_aload_n (pc := 29) dX12_steer_29 rfl 1 rfl ?_
    obtain ⟨a9, ha9, h⟩ := ob h
    refine r_getS (pc := 30) dX12_steer_30 fgX12_204 rfl g1 ha9 ?_
    refine r_iload_n (pc := 33) dX12_steer_33 rfl 2 rfl ?_
    obtain ⟨g10, h⟩ := gd h
    obtain ⟨g11, h⟩ := gd h
    refine r_laload (pc := 34) dX12_steer_34 g10 g11 ?_
    refine r_ldc2 (pc := 35) dX12_steer_35 clX12_172 ?_
    refine r_lcmp (pc := 38) dX12_steer_38 ?_
    refine r_if_eq (pc := 39) (tgt := 51) dX12_steer_39 rfl (fun c => ?_) (fun c => ?_)
    · have h := it h (lgc_eq.mp c)
      refine r_sub [1, 2, 0] rfl ?_
      exact wX12_steer_b51 h
    · have h := ie h (fun q => c (lgc_eq.mpr q))
      refine r_aload_n (pc := 42) dX12_steer_42 rfl 1 rfl ?_
      obtain ⟨a30, ha30, h⟩ := ob h
      refine r_getS (pc := 43) dX12_steer_43 fgX12_232 rfl g1 ha30 ?_
      refine r_iload_n (pc := 46) dX12_steer_46 rfl 2 rfl ?_
      obtain ⟨g31, h⟩ := gd h
      obtain ⟨g32, h⟩ := gd h
      refine r_iaload (pc := 47) dX12_steer_47 g31 g32 ?_
      refine r_ifne (pc := 48) (tgt := 83) dX12_steer_48 rfl (fun c => ?_) (fun c => ?_)
      · have h := ie h c
        refine r_aload_n (pc := 83) dX12_steer_83 rfl 1 rfl ?_
        refine r_getS (pc := 84) dX12_steer_84 fgX12_204 rfl g1 ha9 ?_
        refine r_iload_n (pc := 87) dX12_steer_87 rfl 2 rfl ?_
        refine r_laload (pc := 88) dX12_steer_88 g10 g11 ?_
        obtain ⟨r33, hc34, h⟩ := ob h
        refine r_callS1 (pc := 89) (av := [vL (J a9 (Int32.toNatClampNeg x1))]) (S := []) dX12_steer_89 (kX12_fromBits hc34) mkX12_630 mwX12_fromBits rfl ⟨Nat.le_of_ble_eq_true rfl, Nat.le_of_ble_eq_true rfl⟩ (Nat.le_of_ble_eq_true rfl) ⟨Nat.le_refl _, Nat.le_refl _⟩ (fun b => b) ?_
        refine r_ldc2d (pc := 92) dX12_steer_92 cdX12_667 ?_
        obtain ⟨g35, h⟩ := gd h
        refine r_dmul (pc := 95) dX12_steer_95 g35 ?_
        refine r_d2l (pc := 96) dX12_steer_96 ?_
        refine r_ldc2 (pc := 97) dX12_steer_97 clX12_669 ?_
        refine r_callS1 (pc := 100) (av := [vL (FP.d2l (FP.dmul r33 (4652007308841189376 : UInt64))), vL (1000000000 : Int64)]) (S := []) dX12_steer_100 (kX12_within rfl) mkX12_671 mwX12_within rfl ⟨Nat.le_of_ble_eq_true rfl, Nat.le_of_ble_eq_true rfl⟩ (Nat.le_of_ble_eq_true rfl) ⟨Nat.le_refl _, Nat.le_refl _⟩ (fun b => b) ?_
        refine r_lstore_n (pc := 103) (L' := [(3, vL (fX12_within (FP.d2l (FP.dmul r33 (4652007308841189376 : UInt64))) (1000000000 : Int64))), (2, vI (I a2 (Int32.toNatClampNeg x1))), (0, vR (some t)), (1, vI x1)]) dX12_steer_103 rfl (by decide) rfl ?_
        refine r_lload_n (pc := 104) dX12_steer_104 rfl 0 rfl ?_
        refine r_aload_n (pc := 105) dX12_steer_105 rfl 2 rfl ?_
        refine r_iload_n (pc := 106) dX12_steer_106 rfl 3 rfl ?_
        refine r_aload_n (pc := 107) dX12_steer_107 rfl 2 rfl ?_
        refine r_getI (pc := 108) dX12_steer_108 fgX12_643 rfl g1 ?_
        refine r_sipush (pc := 111) dX12_steer_111 kc_sipush_1440 ?_
        refine r_irem (pc := 114) dX12_steer_114 (by decide) ?_
        obtain ⟨r37, hc38, h⟩ := ob h
        refine r_callV1 (pc := 115) (av := [vI x1, vI ((I t 85) - (I t 85) / (1440 : Int32) * (1440 : Int32))]) (S := [vL (fX12_within (FP.d2l (FP.dmul r33 (4652007308841189376 : UInt64))) (1000000000 : Int64))]) dX12_steer_115 (kX12_wishAt hc38) g1 rfl mkX12_661 mwX12_wishAt rfl ⟨Nat.le_of_ble_eq_true rfl, Nat.le_of_ble_eq_true rfl⟩ (Nat.le_of_ble_eq_true rfl) ⟨Nat.le_refl _, Nat.le_refl _⟩ (fun b => b) ?_
        refine r_i2l (pc := 118) dX12_steer_118 ?_
        refine r_lsub (pc := 119) dX12_steer_119 ?_
        refine r_ldc2 (pc := 120) dX12_steer_120 clX12_674 ?_
        refine r_callS1 (pc := 123) (av := [vL ((fX12_within (FP.d2l (FP.dmul r33 (4652007308841189376 : UInt64))) (1000000000 : Int64)) - (Int32.toInt64 r37)), vL (100000 : Int64)]) (S := []) dX12_steer_123 (kX12_within rfl) mkX12_671 mwX12_within rfl ⟨Nat.le_of_ble_eq_true rfl, Nat.le_of_ble_eq_true rfl⟩ (Nat.le_of_ble_eq_true rfl) ⟨Nat.le_refl _, Nat.le_refl _⟩ (fun b => b) ?_
        refine r_lstore (pc := 126) (L' := [(5, vL (fX12_within ((fX12_within (FP.d2l (FP.dmul r33 (4652007308841189376 : UInt64))) (1000000000 : Int64)) - (Int32.toInt64 r37)) (100000 : Int64))), (3, vL (fX12_within (FP.d2l (FP.dmul r33 (4652007308841189376 : UInt64))) (1000000000 : Int64))), (2, vI (I a2 (Int32.toNatClampNeg x1))), (0, vR (some t)), (1, vI x1)]) dX12_steer_126 (by decide) rfl ?_
        refine r_aload_n (pc := 128) dX12_steer_128 rfl 3 rfl ?_
        obtain ⟨a40, ha40, h⟩ := ob h
        refine r_getS (pc := 129) dX12_steer_129 fgX12_226 rfl g1 ha40 ?_
        refine r_iload_n (pc := 132) dX12_steer_132 rfl 4 rfl ?_
        refine r_aload_n (pc := 133) dX12_steer_133 rfl 3 rfl ?_
        refine r_getS (pc := 134) dX12_steer_134 fgX12_226 rfl g1 ha40 ?_
        refine r_iload_n (pc := 137) dX12_steer_137 rfl 4 rfl ?_
        obtain ⟨g41, h⟩ := gd h
        obtain ⟨g42, h⟩ := gd h
        refine r_iaload (pc := 138) dX12_steer_138 g41 g42 ?_
        refine r_i2l (pc := 139) dX12_steer_139 ?_
        refine r_lload (pc := 140) dX12_steer_140 0 rfl ?_
        refine r_ldc2 (pc := 142) dX12_steer_142 clX12_676 ?_
        refine r_ldiv (pc := 145) dX12_steer_145 (by decide) ?_
        refine r_ladd (pc := 146) dX12_steer_146 ?_
        refine r_ldc2 (pc := 147) dX12_steer_147 clX12_678 ?_
        refine r_callS1 (pc := 150) (av := [vL ((Int32.toInt64 (I a40 (Int32.toNatClampNeg x1))) + ((fX12_within ((fX12_within (FP.d2l (FP.dmul r33 (4652007308841189376 : UInt64))) (1000000000 : Int64)) - (Int32.toInt64 r37)) (100000 : Int64)) / (16 : Int64))), vL (4000 : Int64)]) (S := [vI x1, vR (some a40)]) dX12_steer_150 (kX12_within rfl) mkX12_671 mwX12_within rfl ⟨Nat.le_of_ble_eq_true rfl, Nat.le_of_ble_eq_true rfl⟩ (Nat.le_of_ble_eq_true rfl) ⟨Nat.le_refl _, Nat.le_refl _⟩ (fun b => b) ?_
        refine r_l2i (pc := 153) dX12_steer_153 ?_
        refine r_iastore (pc := 154) dX12_steer_154 g41 g42 ?_
        refine r_lload (pc := 155) dX12_steer_155 0 rfl ?_
        refine r_ldc2 (pc := 157) dX12_steer_157 clX12_680 ?_
        refine r_ldiv (pc := 160) dX12_steer_160 (by decide) ?_
        refine r_aload_n (pc := 161) dX12_steer_161 rfl 3 rfl ?_
        refine r_getS (pc := 162) dX12_steer_162 fgX12_226 rfl g1 ha40 ?_
        refine r_iload_n (pc := 165) dX12_steer_165 rfl 4 rfl ?_
        refine r_iaload (pc := 166) dX12_steer_166 g41 g42 ?_
        refine r_sipush (pc := 167) dX12_steer_167 kc_sipush_500 ?_
        refine r_idiv (pc := 170) dX12_steer_170 (by decide) ?_
        refine r_i2l (pc := 171) dX12_steer_171 ?_
        refine r_ladd (pc := 172) dX12_steer_172 ?_
        refine r_ldc2 (pc := 173) dX12_steer_173 clX12_682 ?_
        refine r_callS1 (pc := 176) (av := [vL (((fX12_within ((fX12_within (FP.d2l (FP.dmul r33 (4652007308841189376 : UInt64))) (1000000000 : Int64)) - (Int32.toInt64 r37)) (100000 : Int64)) / (400 : Int64)) + (Int32.toInt64 (((u2 I a40 (Int32.toNatClampNeg x1) (Int64.toInt32 (fX12_within ((Int32.toInt64 (I a40 (Int32.toNatClampNeg x1))) + ((fX12_within ((fX12_within (FP.d2l (FP.dmul r33 (4652007308841189376 : UInt64))) (1000000000 : Int64)) - (Int32.toInt64 r37)) (100000 : Int64)) / (16 : Int64))) (4000 : Int64)))) a40 (Int32.toNatClampNeg x1)) / (500 : Int32)))), vL (10 : Int64)]) (S := []) dX12_steer_176 (kX12_within rfl) mkX12_671 mwX12_within rfl ⟨Nat.le_of_ble_eq_true rfl, Nat.le_of_ble_eq_true rfl⟩ (Nat.le_of_ble_eq_true rfl) ⟨Nat.le_refl _, Nat.le_refl _⟩ (fun b => b) ?_
        refine r_l2i (pc := 179) dX12_steer_179 ?_
        refine r_istore (pc := 180) (L' := [(7, vI (Int64.toInt32 (fX12_within (((fX12_within ((fX12_within (FP.d2l (FP.dmul r33 (4652007308841189376 : UInt64))) (1000000000 : Int64)) - (Int32.toInt64 r37)) (100000 : Int64)) / (400 : Int64)) + (Int32.toInt64 (((u2 I a40 (Int32.toNatClampNeg x1) (Int64.toInt32 (fX12_within ((Int32.toInt64 (I a40 (Int32.toNatClampNeg x1))) + ((fX12_within ((fX12_within (FP.d2l (FP.dmul r33 (4652007308841189376 : UInt64))) (1000000000 : Int64)) - (Int32.toInt64 r37)) (100000 : Int64)) / (16 : Int64))) (4000 : Int64)))) a40 (Int32.toNatClampNeg x1)) / (500 : Int32)))) (10 : Int64)))), (5, vL (fX12_within ((fX12_within (FP.d2l (FP.dmul r33 (4652007308841189376 : UInt64))) (1000000000 : Int64)) - (Int32.toInt64 r37)) (100000 : Int64))), (3, vL (fX12_within (FP.d2l (FP.dmul r33 (4652007308841189376 : UInt64))) (1000000000 : Int64))), (2, vI (I a2 (Int32.toNatClampNeg x1))), (0, vR (some t)), (1, vI x1)]) dX12_steer_180 (by decide) rfl ?_
        refine r_iload (pc := 182) dX12_steer_182 0 rfl ?_
        refine r_ifge (pc := 184) (tgt := 193) dX12_steer_184 rfl (fun c => ?_) (fun c => ?_)
        · have h := it h c
          refine r_iload (pc := 193) dX12_steer_193 0 rfl ?_
          refine r_sub [4, 5, 3, 0] rfl ?_
          exact wX12_steer_b195 h
        · have h := ie h c
          refine r_iload (pc := 187) dX12_steer_187 0 rfl ?_
          refine r_ineg (pc := 189) dX12_steer_189 ?_
          refine r_goto (pc := 190) (tgt := 195) dX12_steer_190 rfl ?_
          refine r_sub [4, 5, 3, 0] rfl ?_
          exact wX12_steer_b195 h
      · have h := it h c
        refine r_sub [1, 2, 0] rfl ?_
        exact wX12_steer_b51 h
  · have h := it h c
    refine r_aload_n (pc := 17) dX12_steer_17 rfl 1 rfl ?_
    refine r_getS (pc := 18) dX12_steer_18 fgX12_220 rfl g1 ha2 ?_
    refine r_iload_n (pc := 21) dX12_steer_21 rfl 2 rfl ?_
    refine r_iload_n (pc := 22) dX12_steer_22 rfl 0 rfl ?_
    refine r_iconst (pc := 23) dX12_steer_23 kc_iconst_0 ?_
    refine r_callS1 (pc := 24) (av := [vI (I a2 (Int32.toNatClampNeg x1)), vI (0 : Int32)]) (S := [vI x1, vR (some a2)]) dX12_steer_24 (kX12_toward rfl) mkX12_664 mwX12_toward rfl ⟨Nat.le_of_ble_eq_true rfl, Nat.le_of_ble_eq_true rfl⟩ (Nat.le_of_ble_eq_true rfl) ⟨Nat.le_refl _, Nat.le_refl _⟩ (fun b => b) ?_
    refine r_iastore (pc := 27) dX12_steer_27 g3 g4 ?_
    cases h
    exact r_vret dX12_steer_28
abbrev WX12_breathe (G : Gx) (l : Launch) (σ0 : Shp) (X1 : Stt) (rv : Option SV) : Stt → Nat → List (Nat × SV) → List SV → Prop := Wm G l yX12_breathe cX12_breathe 16 none (fun _ => True) (rmx 2 51 σ0 X1.1) σ0 (Qmx G σ0 X1 rv)
def fX12_breathe_b229  (σ : Shp) (R : Nat → Nat → Option Nat) (t : Nat) (I : Nat → Nat → Int32) (J : Nat → Nat → Int64) (x1 : Int32) (x2 : Int64) (x4 : Int64) (x6 : Int64) (x8 : Int64) (x10 : Int64) (s0 : Int64) : Option ((Nat → Nat → Int32) × (Nat → Nat → Int64)) :=
  if kdx σ t = 13 then
  ((R t 98) : Option Nat).bind fun a45 =>
  if kdx σ a45 = 21 then
  if ¬ (x1 < 0 ∨ lnx σ a45 ≤ Int32.toNatClampNeg x1) then
  let J48 := u2 J a45 (Int32.toNatClampNeg x1) ((J a45 (Int32.toNatClampNeg x1)) - s0)
  ((R t 102) : Option Nat).bind fun a49 =>
  if kdx σ a49 = 21 then
  if ¬ (((6 : Int32) * x1) < 0 ∨ lnx σ a49 ≤ Int32.toNatClampNeg ((6 : Int32) * x1)) then
  let J52 := u2 J48 a49 (Int32.toNatClampNeg ((6 : Int32) * x1)) ((J48 a49 (Int32.toNatClampNeg ((6 : Int32) * x1))) + s0)
  if ¬ ((((6 : Int32) * x1) + (1 : Int32)) < 0 ∨ lnx σ a49 ≤ Int32.toNatClampNeg (((6 : Int32) * x1) + (1 : Int32))) then
  let J54 := u2 J52 a49 (Int32.toNatClampNeg (((6 : Int32) * x1) + (1 : Int32))) ((J52 a49 (Int32.toNatClampNeg (((6 : Int32) * x1) + (1 : Int32)))) + x2)
  if ¬ ((((6 : Int32) * x1) + (2 : Int32)) < 0 ∨ lnx σ a49 ≤ Int32.toNatClampNeg (((6 : Int32) * x1) + (2 : Int32))) then
  let J56 := u2 J54 a49 (Int32.toNatClampNeg (((6 : Int32) * x1) + (2 : Int32))) ((J54 a49 (Int32.toNatClampNeg (((6 : Int32) * x1) + (2 : Int32)))) + x4)
  if ¬ ((((6 : Int32) * x1) + (3 : Int32)) < 0 ∨ lnx σ a49 ≤ Int32.toNatClampNeg (((6 : Int32) * x1) + (3 : Int32))) then
  let J58 := u2 J56 a49 (Int32.toNatClampNeg (((6 : Int32) * x1) + (3 : Int32))) ((J56 a49 (Int32.toNatClampNeg (((6 : Int32) * x1) + (3 : Int32)))) + x6)
  if ¬ ((((6 : Int32) * x1) + (4 : Int32)) < 0 ∨ lnx σ a49 ≤ Int32.toNatClampNeg (((6 : Int32) * x1) + (4 : Int32))) then
  let J60 := u2 J58 a49 (Int32.toNatClampNeg (((6 : Int32) * x1) + (4 : Int32))) ((J58 a49 (Int32.toNatClampNeg (((6 : Int32) * x1) + (4 : Int32)))) + x8)
  if ¬ ((((6 : Int32) * x1) + (5 : Int32)) < 0 ∨ lnx σ a49 ≤ Int32.toNatClampNeg (((6 : Int32) * x1) + (5 : Int32))) then
  let J62 := u2 J60 a49 (Int32.toNatClampNeg (((6 : Int32) * x1) + (5 : Int32))) ((J60 a49 (Int32.toNatClampNeg (((6 : Int32) * x1) + (5 : Int32)))) + x10)
  some (I, J62)
  else none
  else none
  else none
  else none
  else none
  else none
  else none
  else none
  else none
  else none
theorem wX12_breathe_b229 {G : Gx} {l : Launch} {σ : Shp} {I : Nat → Nat → Int32} {J : Nat → Nat → Int64} {D : Nat → Nat → UInt64} {R : Nat → Nat → Option Nat} {t : Nat} {I9 : Nat → Nat → Int32} {J9 : Nat → Nat → Int64} {x1 : Int32} {x2 : Int64} {x4 : Int64} {x6 : Int64} {x8 : Int64} {x10 : Int64} {s0 : Int64} (h : fX12_breathe_b229 σ R t I J x1 x2 x4 x6 x8 x10 s0 = some (I9, J9)) : WX12_breathe G l σ (σ, I9, J9, D, R) none (σ, I, J, D, R) 229 [(0, vR (some t)), (1, vI x1), (2, vL x2), (4, vL x4), (6, vL x6), (8, vL x8), (10, vL x10)] [vL s0] := by
  unfold fX12_breathe_b229 at h
  refine r_lstore (pc := 229) (L' := [(14, vL s0), (0, vR (some t)), (1, vI x1), (2, vL x2), (4, vL x4), (6, vL x6), (8, vL x8), (10, vL x10)]) dX12_breathe_229 (by decide) rfl ?_
  refine r_aload_n (pc := 231) dX12_breathe_231 rfl 1 rfl ?_
  obtain ⟨g44, h⟩ := gd h
  obtain ⟨a45, ha45, h⟩ := ob h
  refine r_getS (pc := 232) dX12_breathe_232 fgX12_217 rfl g44 ha45 ?_
  refine r_iload_n (pc := 235) dX12_breathe_235 rfl 2 rfl ?_
  refine r_dup2 (pc := 236) dX12_breathe_236 rfl rfl ?_
  obtain ⟨g46, h⟩ := gd h
  obtain ⟨g47, h⟩ := gd h
  refine r_laload (pc := 237) dX12_breathe_237 g46 g47 ?_
  refine r_lload (pc := 238) dX12_breathe_238 0 rfl ?_
  refine r_lsub (pc := 240) dX12_breathe_240 ?_
  refine r_lastore (pc := 241) dX12_breathe_241 g46 g47 ?_
  refine r_aload_n (pc := 242) dX12_breathe_242 rfl 1 rfl ?_
  obtain ⟨a49, ha49, h⟩ := ob h
  refine r_getS (pc := 243) dX12_breathe_243 fgX12_229 rfl g44 ha49 ?_
  refine r_bipush (pc := 246) dX12_breathe_246 kc_bipush_6 ?_
  refine r_iload_n (pc := 248) dX12_breathe_248 rfl 2 rfl ?_
  refine r_imul (pc := 249) dX12_breathe_249 ?_
  refine r_dup2 (pc := 250) dX12_breathe_250 rfl rfl ?_
  obtain ⟨g50, h⟩ := gd h
  obtain ⟨g51, h⟩ := gd h
  refine r_laload (pc := 251) dX12_breathe_251 g50 g51 ?_
  refine r_lload (pc := 252) dX12_breathe_252 0 rfl ?_
  refine r_ladd (pc := 254) dX12_breathe_254 ?_
  refine r_lastore (pc := 255) dX12_breathe_255 g50 g51 ?_
  refine r_aload_n (pc := 256) dX12_breathe_256 rfl 1 rfl ?_
  refine r_getS (pc := 257) dX12_breathe_257 fgX12_229 rfl g44 ha49 ?_
  refine r_bipush (pc := 260) dX12_breathe_260 kc_bipush_6 ?_
  refine r_iload_n (pc := 262) dX12_breathe_262 rfl 2 rfl ?_
  refine r_imul (pc := 263) dX12_breathe_263 ?_
  refine r_iconst (pc := 264) dX12_breathe_264 kc_iconst_1 ?_
  refine r_iadd (pc := 265) dX12_breathe_265 ?_
  refine r_dup2 (pc := 266) dX12_breathe_266 rfl rfl ?_
  obtain ⟨g53, h⟩ := gd h
  refine r_laload (pc := 267) dX12_breathe_267 g50 g53 ?_
  refine r_lload_n (pc := 268) dX12_breathe_268 rfl 3 rfl ?_
  refine r_ladd (pc := 269) dX12_breathe_269 ?_
  refine r_lastore (pc := 270) dX12_breathe_270 g50 g53 ?_
  refine r_aload_n (pc := 271) dX12_breathe_271 rfl 1 rfl ?_
  refine r_getS (pc := 272) dX12_breathe_272 fgX12_229 rfl g44 ha49 ?_
  refine r_bipush (pc := 275) dX12_breathe_275 kc_bipush_6 ?_
  refine r_iload_n (pc := 277) dX12_breathe_277 rfl 2 rfl ?_
  refine r_imul (pc := 278) dX12_breathe_278 ?_
  refine r_iconst (pc := 279) dX12_breathe_279 kc_iconst_2 ?_
  refine r_iadd (pc := 280) dX12_breathe_280 ?_
  refine r_dup2 (pc := 281) dX12_breathe_281 rfl rfl ?_
  obtain ⟨g55, h⟩ := gd h
  refine r_laload (pc := 282) dX12_breathe_282 g50 g55 ?_
  refine r_lload (pc := 283) dX12_breathe_283 4 rfl ?_
  refine r_ladd (pc := 285) dX12_breathe_285 ?_
  refine r_lastore (pc := 286) dX12_breathe_286 g50 g55 ?_
  refine r_aload_n (pc := 287) dX12_breathe_287 rfl 1 rfl ?_
  refine r_getS (pc := 288) dX12_breathe_288 fgX12_229 rfl g44 ha49 ?_
  refine r_bipush (pc := 291) dX12_breathe_291 kc_bipush_6 ?_
  refine r_iload_n (pc := 293) dX12_breathe_293 rfl 2 rfl ?_
  refine r_imul (pc := 294) dX12_breathe_294 ?_
  refine r_iconst (pc := 295) dX12_breathe_295 kc_iconst_3 ?_
  refine r_iadd (pc := 296) dX12_breathe_296 ?_
  refine r_dup2 (pc := 297) dX12_breathe_297 rfl rfl ?_
  obtain ⟨g57, h⟩ := gd h
  refine r_laload (pc := 298) dX12_breathe_298 g50 g57 ?_
  refine r_lload (pc := 299) dX12_breathe_299 5 rfl ?_
  refine r_ladd (pc := 301) dX12_breathe_301 ?_
  refine r_lastore (pc := 302) dX12_breathe_302 g50 g57 ?_
  refine r_aload_n (pc := 303) dX12_breathe_303 rfl 1 rfl ?_
  refine r_getS (pc := 304) dX12_breathe_304 fgX12_229 rfl g44 ha49 ?_
  refine r_bipush (pc := 307) dX12_breathe_307 kc_bipush_6 ?_
  refine r_iload_n (pc := 309) dX12_breathe_309 rfl 2 rfl ?_
  refine r_imul (pc := 310) dX12_breathe_310 ?_
  refine r_iconst (pc := 311) dX12_breathe_311 kc_iconst_4 ?_
  refine r_iadd (pc := 312) dX12_breathe_312 ?_
  refine r_dup2 (pc := 313) dX12_breathe_313 rfl rfl ?_
  obtain ⟨g59, h⟩ := gd h
  refine r_laload (pc := 314) dX12_breathe_314 g50 g59 ?_
  refine r_lload (pc := 315) dX12_breathe_315 6 rfl ?_
  refine r_ladd (pc := 317) dX12_breathe_317 ?_
  refine r_lastore (pc := 318) dX12_breathe_318 g50 g59 ?_
  refine r_aload_n (pc := 319) dX12_breathe_319 rfl 1 rfl ?_
  refine r_getS (pc := 320) dX12_breathe_320 fgX12_229 rfl g44 ha49 ?_
  refine r_bipush (pc := 323) dX12_breathe_323 kc_bipush_6 ?_
  refine r_iload_n (pc := 325) dX12_breathe_325 rfl 2 rfl ?_
  refine r_imul (pc := 326) dX12_breathe_326 ?_
  refine r_iconst (pc := 327) dX12_breathe_327 kc_iconst_5 ?_
  refine r_iadd (pc := 328) dX12_breathe_328 ?_
  refine r_dup2 (pc := 329) dX12_breathe_329 rfl rfl ?_
  obtain ⟨g61, h⟩ := gd h
  refine r_laload (pc := 330) dX12_breathe_330 g50 g61 ?_
  refine r_lload (pc := 331) dX12_breathe_331 7 rfl ?_
  refine r_ladd (pc := 333) dX12_breathe_333 ?_
  refine r_lastore (pc := 334) dX12_breathe_334 g50 g61 ?_
  cases h
  exact r_vret dX12_breathe_335
def fX12_breathe_b202  (σ : Shp) (R : Nat → Nat → Option Nat) (t : Nat) (I : Nat → Nat → Int32) (J : Nat → Nat → Int64) (x1 : Int32) (x2 : Int64) (x4 : Int64) (x6 : Int64) (x8 : Int64) (x10 : Int64) (s0 : Int64) : Option ((Nat → Nat → Int32) × (Nat → Nat → Int64)) :=
  if kdx σ t = 13 then
  ((R t 98) : Option Nat).bind fun a41 =>
  if kdx σ a41 = 21 then
  if ¬ (x1 < 0 ∨ lnx σ a41 ≤ Int32.toNatClampNeg x1) then
  if (J a41 (Int32.toNatClampNeg x1)) ≤ s0 then
    fX12_breathe_b229 σ R t I J x1 x2 x4 x6 x8 x10 (0 : Int64)
  else
    fX12_breathe_b229 σ R t I J x1 x2 x4 x6 x8 x10 ((J a41 (Int32.toNatClampNeg x1)) - s0)
  else none
  else none
  else none
theorem wX12_breathe_b202 {G : Gx} {l : Launch} {σ : Shp} {I : Nat → Nat → Int32} {J : Nat → Nat → Int64} {D : Nat → Nat → UInt64} {R : Nat → Nat → Option Nat} {t : Nat} {I9 : Nat → Nat → Int32} {J9 : Nat → Nat → Int64} {x1 : Int32} {x2 : Int64} {x4 : Int64} {x6 : Int64} {x8 : Int64} {x10 : Int64} {s0 : Int64} (h : fX12_breathe_b202 σ R t I J x1 x2 x4 x6 x8 x10 s0 = some (I9, J9)) : WX12_breathe G l σ (σ, I9, J9, D, R) none (σ, I, J, D, R) 202 [(0, vR (some t)), (1, vI x1), (2, vL x2), (4, vL x4), (6, vL x6), (8, vL x8), (10, vL x10)] [vL s0] := by
  unfold fX12_breathe_b202 at h
  refine r_lstore (pc := 202) (L' := [(12, vL s0), (0, vR (some t)), (1, vI x1), (2, vL x2), (4, vL x4), (6, vL x6), (8, vL x8), (10, vL x10)]) dX12_breathe_202 (by decide) rfl ?_
  refine r_aload_n (pc := 204) dX12_breathe_204 rfl 1 rfl ?_
  obtain ⟨g40, h⟩ := gd h
  obtain ⟨a41, ha41, h⟩ := ob h
  refine r_getS (pc := 205) dX12_breathe_205 fgX12_217 rfl g40 ha41 ?_
  refine r_iload_n (pc := 208) dX12_breathe_208 rfl 2 rfl ?_
  obtain ⟨g42, h⟩ := gd h
  obtain ⟨g43, h⟩ := gd h
  refine r_laload (pc := 209) dX12_breathe_209 g42 g43 ?_
  refine r_lload (pc := 210) dX12_breathe_210 0 rfl ?_
  refine r_lcmp (pc := 212) dX12_breathe_212 ?_
  refine r_if_le (pc := 213) (tgt := 228) dX12_breathe_213 rfl (fun c => ?_) (fun c => ?_)
  · have h := it h (lgc_le.mp c)
    refine r_lconst (pc := 228) dX12_breathe_228 kc_lconst_0 ?_
    refine r_sub [1, 2, 3, 4, 5, 6, 7] rfl ?_
    exact wX12_breathe_b229 h
  · have h := ie h (fun q => c (lgc_le.mpr q))
    refine r_aload_n (pc := 216) dX12_breathe_216 rfl 1 rfl ?_
    refine r_getS (pc := 217) dX12_breathe_217 fgX12_217 rfl g40 ha41 ?_
    refine r_iload_n (pc := 220) dX12_breathe_220 rfl 2 rfl ?_
    refine r_laload (pc := 221) dX12_breathe_221 g42 g43 ?_
    refine r_lload (pc := 222) dX12_breathe_222 0 rfl ?_
    refine r_lsub (pc := 224) dX12_breathe_224 ?_
    refine r_goto (pc := 225) (tgt := 229) dX12_breathe_225 rfl ?_
    refine r_sub [1, 2, 3, 4, 5, 6, 7] rfl ?_
    exact wX12_breathe_b229 h
def fX12_breathe_b142  (σ : Shp) (R : Nat → Nat → Option Nat) (t : Nat) (I : Nat → Nat → Int32) (J : Nat → Nat → Int64) (x1 : Int32) (x2 : Int64) (x4 : Int64) (x6 : Int64) (x8 : Int64) (s0 : Int64) : Option ((Nat → Nat → Int32) × (Nat → Nat → Int64)) :=
  if kdx σ t = 13 then
  ((R t 98) : Option Nat).bind fun a26 =>
  if kdx σ a26 = 21 then
  if ¬ (x1 < 0 ∨ lnx σ a26 ≤ Int32.toNatClampNeg x1) then
  let J29 := u2 J a26 (Int32.toNatClampNeg x1) ((J a26 (Int32.toNatClampNeg x1)) + s0)
  ((R t 75) : Option Nat).bind fun a30 =>
  if kdx σ a30 = 20 then
  if ¬ ((0 : Int32) < 0 ∨ lnx σ a30 ≤ Int32.toNatClampNeg (0 : Int32)) then
  if (I a30 (Int32.toNatClampNeg (0 : Int32))) = 0 then
    if (0 : Int64) ≤ (9000 : Int64) then
      fX12_breathe_b202 σ R t I J29 x1 x2 x4 x6 x8 s0 (9000 : Int64)
    else
      fX12_breathe_b202 σ R t I J29 x1 x2 x4 x6 x8 s0 (0 : Int64)
  else
    ((R t 97) : Option Nat).bind fun a33 =>
    if kdx σ a33 = 21 then
    if ¬ (x1 < 0 ∨ lnx σ a33 ≤ Int32.toNatClampNeg x1) then
    (fX12_valueOf σ I R t (0 : Int32) (Int64.toInt32 ((J29 a33 (Int32.toNatClampNeg x1)) / (1000 : Int64)))).bind fun (I36, r37) =>
    let v39 := (Int32.toInt64 r37)
    if (0 : Int64) ≤ v39 then
      fX12_breathe_b202 σ R t I36 J29 x1 x2 x4 x6 x8 s0 v39
    else
      fX12_breathe_b202 σ R t I36 J29 x1 x2 x4 x6 x8 s0 (0 : Int64)
    else none
    else none
  else none
  else none
  else none
  else none
  else none
theorem wX12_breathe_b142 {G : Gx} {l : Launch} {σ : Shp} {I : Nat → Nat → Int32} {J : Nat → Nat → Int64} {D : Nat → Nat → UInt64} {R : Nat → Nat → Option Nat} {t : Nat} {I9 : Nat → Nat → Int32} {J9 : Nat → Nat → Int64} {x1 : Int32} {x2 : Int64} {x4 : Int64} {x6 : Int64} {x8 : Int64} {s0 : Int64} (h : fX12_breathe_b142 σ R t I J x1 x2 x4 x6 x8 s0 = some (I9, J9)) : WX12_breathe G l σ (σ, I9, J9, D, R) none (σ, I, J, D, R) 142 [(0, vR (some t)), (1, vI x1), (2, vL x2), (4, vL x4), (6, vL x6), (8, vL x8)] [vL s0] := by
  unfold fX12_breathe_b142 at h
  refine r_lstore (pc := 142) (L' := [(10, vL s0), (0, vR (some t)), (1, vI x1), (2, vL x2), (4, vL x4), (6, vL x6), (8, vL x8)]) dX12_breathe_142 (by decide) rfl ?_
  refine r_aload_n (pc := 144) dX12_breathe_144 rfl 1 rfl ?_
  obtain ⟨g25, h⟩ := gd h
  obtain ⟨a26, ha26, h⟩ := ob h
  refine r_getS (pc := 145) dX12_breathe_145 fgX12_217 rfl g25 ha26 ?_
  refine r_iload_n (pc := 148) dX12_breathe_148 rfl 2 rfl ?_
  refine r_dup2 (pc := 149) dX12_breathe_149 rfl rfl ?_
  obtain ⟨g27, h⟩ := gd h
  obtain ⟨g28, h⟩ := gd h
  refine r_laload (pc := 150) dX12_breathe_150 g27 g28 ?_
  refine r_lload (pc := 151) dX12_breathe_151 0 rfl ?_
  refine r_ladd (pc := 153) dX12_breathe_153 ?_
  refine r_lastore (pc := 154) dX12_breathe_154 g27 g28 ?_
  refine r_aload_n (pc := 155) dX12_breathe_155 rfl 1 rfl ?_
  obtain ⟨a30, ha30, h⟩ := ob h
  refine r_getS (pc := 156) dX12_breathe_156 fgX12_144 rfl g25 ha30 ?_
  refine r_iconst (pc := 159) dX12_breathe_159 kc_iconst_0 ?_
  obtain ⟨g31, h⟩ := gd h
  obtain ⟨g32, h⟩ := gd h
  refine r_iaload (pc := 160) dX12_breathe_160 g31 g32 ?_
  refine r_ifne (pc := 161) (tgt := 170) dX12_breathe_161 rfl (fun c => ?_) (fun c => ?_)
  · have h := ie h c
    refine r_aload_n (pc := 170) dX12_breathe_170 rfl 1 rfl ?_
    refine r_iconst (pc := 171) dX12_breathe_171 kc_iconst_0 ?_
    refine r_aload_n (pc := 172) dX12_breathe_172 rfl 1 rfl ?_
    obtain ⟨a33, ha33, h⟩ := ob h
    refine r_getS (pc := 173) dX12_breathe_173 fgX12_212 rfl g25 ha33 ?_
    refine r_iload_n (pc := 176) dX12_breathe_176 rfl 2 rfl ?_
    obtain ⟨g34, h⟩ := gd h
    obtain ⟨g35, h⟩ := gd h
    refine r_laload (pc := 177) dX12_breathe_177 g34 g35 ?_
    refine r_ldc2 (pc := 178) dX12_breathe_178 clX12_690 ?_
    refine r_ldiv (pc := 181) dX12_breathe_181 (by decide) ?_
    refine r_l2i (pc := 182) dX12_breathe_182 ?_
    obtain ⟨⟨I36, r37⟩, hc38, h⟩ := ob h
    refine r_callV1 (pc := 183) (av := [vI (0 : Int32), vI (Int64.toInt32 (((u2 J a26 (Int32.toNatClampNeg x1) ((J a26 (Int32.toNatClampNeg x1)) + s0)) a33 (Int32.toNatClampNeg x1)) / (1000 : Int64)))]) (S := []) dX12_breathe_183 (kX12_valueOf hc38) g25 rfl mkX12_627 mwX12_valueOf rfl ⟨Nat.le_of_ble_eq_true rfl, Nat.le_of_ble_eq_true rfl⟩ (Nat.le_of_ble_eq_true rfl) ⟨Nat.le_refl _, Nat.le_refl _⟩ (fun b => b) ?_
    refine r_i2l (pc := 186) dX12_breathe_186 ?_
    refine r_lstore (pc := 187) (L' := [(12, vL (Int32.toInt64 r37)), (10, vL s0), (0, vR (some t)), (1, vI x1), (2, vL x2), (4, vL x4), (6, vL x6), (8, vL x8)]) dX12_breathe_187 (by decide) rfl ?_
    refine r_lload (pc := 189) dX12_breathe_189 0 rfl ?_
    refine r_lconst (pc := 191) dX12_breathe_191 kc_lconst_0 ?_
    refine r_lcmp (pc := 192) dX12_breathe_192 ?_
    refine r_ifge (pc := 193) (tgt := 200) dX12_breathe_193 rfl (fun c => ?_) (fun c => ?_)
    · have h := it h (lgc_ge.mp c)
      refine r_lload (pc := 200) dX12_breathe_200 0 rfl ?_
      refine r_sub [2, 3, 4, 5, 6, 7, 1] rfl ?_
      exact wX12_breathe_b202 h
    · have h := ie h (fun q => c (lgc_ge.mpr q))
      refine r_lconst (pc := 196) dX12_breathe_196 kc_lconst_0 ?_
      refine r_goto (pc := 197) (tgt := 202) dX12_breathe_197 rfl ?_
      refine r_sub [2, 3, 4, 5, 6, 7, 1] rfl ?_
      exact wX12_breathe_b202 h
  · have h := it h c
    refine r_ldc2 (pc := 164) dX12_breathe_164 clX12_688 ?_
    refine r_goto (pc := 167) (tgt := 187) dX12_breathe_167 rfl ?_
    refine r_lstore (pc := 187) (L' := [(12, vL (9000 : Int64)), (10, vL s0), (0, vR (some t)), (1, vI x1), (2, vL x2), (4, vL x4), (6, vL x6), (8, vL x8)]) dX12_breathe_187 (by decide) rfl ?_
    refine r_lload (pc := 189) dX12_breathe_189 0 rfl ?_
    refine r_lconst (pc := 191) dX12_breathe_191 kc_lconst_0 ?_
    refine r_lcmp (pc := 192) dX12_breathe_192 ?_
    refine r_ifge (pc := 193) (tgt := 200) dX12_breathe_193 rfl (fun c => ?_) (fun c => ?_)
    · have h := it h (lgc_ge.mp c)
      refine r_lload (pc := 200) dX12_breathe_200 0 rfl ?_
      refine r_sub [2, 3, 4, 5, 6, 7, 1] rfl ?_
      exact wX12_breathe_b202 h
    · have h := ie h (fun q => c (lgc_ge.mpr q))
      refine r_lconst (pc := 196) dX12_breathe_196 kc_lconst_0 ?_
      refine r_goto (pc := 197) (tgt := 202) dX12_breathe_197 rfl ?_
      refine r_sub [2, 3, 4, 5, 6, 7, 1] rfl ?_
      exact wX12_breathe_b202 h
def fX12_breathe (σ : Shp) (I : Nat → Nat → Int32) (J : Nat → Nat → Int64) (R : Nat → Nat → Option Nat) (t : Nat) (x1 : Int32) : Option ((Nat → Nat → Int32) × (Nat → Nat → Int64)) :=
  if kdx σ t = 13 then
  ((R t 96) : Option Nat).bind fun a2 =>
  if kdx σ a2 = 20 then
  if ¬ ((0 : Int32) < 0 ∨ lnx σ a2 ≤ Int32.toNatClampNeg (0 : Int32)) then
  ((R t 100) : Option Nat).bind fun a5 =>
  if kdx σ a5 = 20 then
  if ¬ (x1 < 0 ∨ lnx σ a5 ≤ Int32.toNatClampNeg x1) then
  let v8 := (Int32.toInt64 (((I a2 (Int32.toNatClampNeg (0 : Int32))) / (8 : Int32)) + ((5 : Int32) * (I a5 (Int32.toNatClampNeg x1)))))
  ((R t 97) : Option Nat).bind fun a9 =>
  if kdx σ a9 = 21 then
  if ¬ (x1 < 0 ∨ lnx σ a9 ≤ Int32.toNatClampNeg x1) then
  if ¬ ((1 : Int32) < 0 ∨ lnx σ a2 ≤ Int32.toNatClampNeg (1 : Int32)) then
  ((R t 99) : Option Nat).bind fun a13 =>
  if kdx σ a13 = 20 then
  if ¬ (x1 < 0 ∨ lnx σ a13 ≤ Int32.toNatClampNeg x1) then
  let v16 := ((((J a9 (Int32.toNatClampNeg x1)) - (Int32.toInt64 (I a2 (Int32.toNatClampNeg (1 : Int32))))) * (Int32.toInt64 ((2 : Int32) + (I a13 (Int32.toNatClampNeg x1))))) / (200 : Int64))
  let J17 := u2 J a9 (Int32.toNatClampNeg x1) ((J a9 (Int32.toNatClampNeg x1)) + (v8 - v16))
  let v18 := (Int32.toInt64 ((12 : Int32) + ((I a2 (Int32.toNatClampNeg (0 : Int32))) / (50 : Int32))))
  ((R t 98) : Option Nat).bind fun a19 =>
  if kdx σ a19 = 21 then
  if ¬ (x1 < 0 ∨ lnx σ a19 ≤ Int32.toNatClampNeg x1) then
  if ¬ ((2 : Int32) < 0 ∨ lnx σ a2 ≤ Int32.toNatClampNeg (2 : Int32)) then
  let v23 := ((((J17 a19 (Int32.toNatClampNeg x1)) - (Int32.toInt64 (I a2 (Int32.toNatClampNeg (2 : Int32))))) * (Int32.toInt64 (I a13 (Int32.toNatClampNeg x1)))) / (80 : Int64))
  let J24 := u2 J17 a19 (Int32.toNatClampNeg x1) ((J17 a19 (Int32.toNatClampNeg x1)) + (v18 - v23))
  if (0 : Int64) ≤ (J24 a19 (Int32.toNatClampNeg x1)) then
    fX12_breathe_b142 σ R t I J24 x1 v8 v16 v18 v23 (0 : Int64)
  else
    fX12_breathe_b142 σ R t I J24 x1 v8 v16 v18 v23 (-(J24 a19 (Int32.toNatClampNeg x1)))
  else none
  else none
  else none
  else none
  else none
  else none
  else none
  else none
  else none
  else none
  else none
  else none
  else none
theorem kX12_breathe {G : Gx} {l : Launch} {σ : Shp} {I : Nat → Nat → Int32} {J : Nat → Nat → Int64} {D : Nat → Nat → UInt64} {R : Nat → Nat → Option Nat} {t : Nat} {x1 : Int32} {I9 : Nat → Nat → Int32} {J9 : Nat → Nat → Int64} (h : fX12_breathe σ I J R t x1 = some (I9, J9)) : Con G l yX12_breathe cX12_breathe 16 none 2 51 [vR (some t), vI x1] (σ, I, J, D, R) (σ, I9, J9, D, R) none := by
  unfold fX12_breathe at h
  refine Con.mk (by decide +kernel) rfl (Nat.le_of_ble_eq_true rfl) ?_
  show WX12_breathe G l σ (σ, I9, J9, D, R) none (σ, I, J, D, R) 0 _ []
  refine r_aload_n (pc := 0) dX12_breathe_0 rfl 0 rfl ?_
  obtain ⟨g1, h⟩ := gd h
  obtain ⟨a2, ha2, h⟩ := ob h
  refine r_getS (pc := 1) dX12_breathe_1 fgX12_207 rfl g1 ha2 ?_
  refine r_iconst (pc := 4) dX12_breathe_4 kc_iconst_0 ?_
  obtain ⟨g3, h⟩ := gd h
  obtain ⟨g4, h⟩ := gd h
  refine r_iaload (pc := 5) dX12_breathe_5 g3 g4 ?_
  refine r_bipush (pc := 6) dX12_breathe_6 kc_bipush_8 ?_
  refine r_idiv (pc := 8) dX12_breathe_8 (by decide) ?_
  refine r_iconst (pc := 9) dX12_breathe_9 kc_iconst_5 ?_
  refine r_aload_n (pc := 10) dX12_breathe_10 rfl 0 rfl ?_
  obtain ⟨a5, ha5, h⟩ := ob h
  refine r_getS (pc := 11) dX12_breathe_11 fgX12_223 rfl g1 ha5 ?_
  refine r_iload_n (pc := 14) dX12_breathe_14 rfl 1 rfl ?_
  obtain ⟨g6, h⟩ := gd h
  obtain ⟨g7, h⟩ := gd h
  refine r_iaload (pc := 15) dX12_breathe_15 g6 g7 ?_
  refine r_imul (pc := 16) dX12_breathe_16 ?_
  refine r_iadd (pc := 17) dX12_breathe_17 ?_
  refine r_i2l (pc := 18) dX12_breathe_18 ?_
  refine r_lstore_n (pc := 19) (L' := [(2, vL (Int32.toInt64 (((I a2 (Int32.toNatClampNeg (0 : Int32))) / (8 : Int32)) + ((5 : Int32) * (I a5 (Int32.toNatClampNeg x1)))))), (0, vR (some t)), (1, vI x1)]) dX12_breathe_19 rfl (by decide) rfl ?_
  refine r_aload_n (pc := 20) dX12_breathe_20 rfl 1 rfl ?_
  obtain ⟨a9, ha9, h⟩ := ob h
  refine r_getS (pc := 21) dX12_breathe_21 fgX12_212 rfl g1 ha9 ?_
  refine r_iload_n (pc := 24) dX12_breathe_24 rfl 2 rfl ?_
  obtain ⟨g10, h⟩ := gd h
  obtain ⟨g11, h⟩ := gd h
  refine r_laload (pc := 25) dX12_breathe_25 g10 g11 ?_
  refine r_aload_n (pc := 26) dX12_breathe_26 rfl 1 rfl ?_
  refine r_getS (pc := 27) dX12_breathe_27 fgX12_207 rfl g1 ha2 ?_
  refine r_iconst (pc := 30) dX12_breathe_30 kc_iconst_1 ?_
  obtain ⟨g12, h⟩ := gd h
  refine r_iaload (pc := 31) dX12_breathe_31 g3 g12 ?_
  refine r_i2l (pc := 32) dX12_breathe_32 ?_
  refine r_lsub (pc := 33) dX12_breathe_33 ?_
  refine r_iconst (pc := 34) dX12_breathe_34 kc_iconst_2 ?_
  refine r_aload_n (pc := 35) dX12_breathe_35 rfl 1 rfl ?_
  obtain ⟨a13, ha13, h⟩ := ob h
  refine r_getS (pc := 36) dX12_breathe_36 fgX12_220 rfl g1 ha13 ?_
  refine r_iload_n (pc := 39) dX12_breathe_39 rfl 2 rfl ?_
  obtain ⟨g14, h⟩ := gd h
  obtain ⟨g15, h⟩ := gd h
  refine r_iaload (pc := 40) dX12_breathe_40 g14 g15 ?_
  refine r_iadd (pc := 41) dX12_breathe_41 ?_
  refine r_i2l (pc := 42) dX12_breathe_42 ?_
  refine r_lmul (pc := 43) dX12_breathe_43 ?_
  refine r_ldc2 (pc := 44) dX12_breathe_44 clX12_684 ?_
  refine r_ldiv (pc := 47) dX12_breathe_47 (by decide) ?_
  refine r_lstore (pc := 48) (L' := [(4, vL ((((J a9 (Int32.toNatClampNeg x1)) - (Int32.toInt64 (I a2 (Int32.toNatClampNeg (1 : Int32))))) * (Int32.toInt64 ((2 : Int32) + (I a13 (Int32.toNatClampNeg x1))))) / (200 : Int64))), (2, vL (Int32.toInt64 (((I a2 (Int32.toNatClampNeg (0 : Int32))) / (8 : Int32)) + ((5 : Int32) * (I a5 (Int32.toNatClampNeg x1)))))), (0, vR (some t)), (1, vI x1)]) dX12_breathe_48 (by decide) rfl ?_
  refine r_aload_n (pc := 50) dX12_breathe_50 rfl 2 rfl ?_
  refine r_getS (pc := 51) dX12_breathe_51 fgX12_212 rfl g1 ha9 ?_
  refine r_iload_n (pc := 54) dX12_breathe_54 rfl 3 rfl ?_
  refine r_dup2 (pc := 55) dX12_breathe_55 rfl rfl ?_
  refine r_laload (pc := 56) dX12_breathe_56 g10 g11 ?_
  refine r_lload_n (pc := 57) dX12_breathe_57 rfl 1 rfl ?_
  refine r_lload (pc := 58) dX12_breathe_58 0 rfl ?_
  refine r_lsub (pc := 60) dX12_breathe_60 ?_
  refine r_ladd (pc := 61) dX12_breathe_61 ?_
  refine r_lastore (pc := 62) dX12_breathe_62 g10 g11 ?_
  refine r_bipush (pc := 63) dX12_breathe_63 kc_bipush_12 ?_
  refine r_aload_n (pc := 65) dX12_breathe_65 rfl 2 rfl ?_
  refine r_getS (pc := 66) dX12_breathe_66 fgX12_207 rfl g1 ha2 ?_
  refine r_iconst (pc := 69) dX12_breathe_69 kc_iconst_0 ?_
  refine r_iaload (pc := 70) dX12_breathe_70 g3 g4 ?_
  refine r_bipush (pc := 71) dX12_breathe_71 kc_bipush_50 ?_
  refine r_idiv (pc := 73) dX12_breathe_73 (by decide) ?_
  refine r_iadd (pc := 74) dX12_breathe_74 ?_
  refine r_i2l (pc := 75) dX12_breathe_75 ?_
  refine r_lstore (pc := 76) (L' := [(6, vL (Int32.toInt64 ((12 : Int32) + ((I a2 (Int32.toNatClampNeg (0 : Int32))) / (50 : Int32))))), (4, vL ((((J a9 (Int32.toNatClampNeg x1)) - (Int32.toInt64 (I a2 (Int32.toNatClampNeg (1 : Int32))))) * (Int32.toInt64 ((2 : Int32) + (I a13 (Int32.toNatClampNeg x1))))) / (200 : Int64))), (2, vL (Int32.toInt64 (((I a2 (Int32.toNatClampNeg (0 : Int32))) / (8 : Int32)) + ((5 : Int32) * (I a5 (Int32.toNatClampNeg x1)))))), (0, vR (some t)), (1, vI x1)]) dX12_breathe_76 (by decide) rfl ?_
  refine r_aload_n (pc := 78) dX12_breathe_78 rfl 3 rfl ?_
  obtain ⟨a19, ha19, h⟩ := ob h
  refine r_getS (pc := 79) dX12_breathe_79 fgX12_217 rfl g1 ha19 ?_
  refine r_iload_n (pc := 82) dX12_breathe_82 rfl 4 rfl ?_
  obtain ⟨g20, h⟩ := gd h
  obtain ⟨g21, h⟩ := gd h
  refine r_laload (pc := 83) dX12_breathe_83 g20 g21 ?_
  refine r_aload_n (pc := 84) dX12_breathe_84 rfl 3 rfl ?_
  refine r_getS (pc := 85) dX12_breathe_85 fgX12_207 rfl g1 ha2 ?_
  refine r_iconst (pc := 88) dX12_breathe_88 kc_iconst_2 ?_
  obtain ⟨g22, h⟩ := gd h
  refine r_iaload (pc := 89) dX12_breathe_89 g3 g22 ?_
  refine r_i2l (pc := 90) dX12_breathe_90 ?_
  refine r_lsub (pc := 91) dX12_breathe_91 ?_
  refine r_aload_n (pc := 92) dX12_breathe_92 rfl 3 rfl ?_
  refine r_getS (pc := 93) dX12_breathe_93 fgX12_220 rfl g1 ha13 ?_
  refine r_iload_n (pc := 96) dX12_breathe_96 rfl 4 rfl ?_
  refine r_iaload (pc := 97) dX12_breathe_97 g14 g15 ?_
  refine r_i2l (pc := 98) dX12_breathe_98 ?_
  refine r_lmul (pc := 99) dX12_breathe_99 ?_
  refine r_ldc2 (pc := 100) dX12_breathe_100 clX12_686 ?_
  refine r_ldiv (pc := 103) dX12_breathe_103 (by decide) ?_
  refine r_lstore (pc := 104) (L' := [(8, vL (((((u2 J a9 (Int32.toNatClampNeg x1) ((J a9 (Int32.toNatClampNeg x1)) + ((Int32.toInt64 (((I a2 (Int32.toNatClampNeg (0 : Int32))) / (8 : Int32)) + ((5 : Int32) * (I a5 (Int32.toNatClampNeg x1))))) - ((((J a9 (Int32.toNatClampNeg x1)) - (Int32.toInt64 (I a2 (Int32.toNatClampNeg (1 : Int32))))) * (Int32.toInt64 ((2 : Int32) + (I a13 (Int32.toNatClampNeg x1))))) / (200 : Int64))))) a19 (Int32.toNatClampNeg x1)) - (Int32.toInt64 (I a2 (Int32.toNatClampNeg (2 : Int32))))) * (Int32.toInt64 (I a13 (Int32.toNatClampNeg x1)))) / (80 : Int64))), (6, vL (Int32.toInt64 ((12 : Int32) + ((I a2 (Int32.toNatClampNeg (0 : Int32))) / (50 : Int32))))), (4, vL ((((J a9 (Int32.toNatClampNeg x1)) - (Int32.toInt64 (I a2 (Int32.toNatClampNeg (1 : Int32))))) * (Int32.toInt64 ((2 : Int32) + (I a13 (Int32.toNatClampNeg x1))))) / (200 : Int64))), (2, vL (Int32.toInt64 (((I a2 (Int32.toNatClampNeg (0 : Int32))) / (8 : Int32)) + ((5 : Int32) * (I a5 (Int32.toNatClampNeg x1)))))), (0, vR (some t)), (1, vI x1)]) dX12_breathe_104 (by decide) rfl ?_
  refine r_aload_n (pc := 106) dX12_breathe_106 rfl 4 rfl ?_
  refine r_getS (pc := 107) dX12_breathe_107 fgX12_217 rfl g1 ha19 ?_
  refine r_iload_n (pc := 110) dX12_breathe_110 rfl 5 rfl ?_
  refine r_dup2 (pc := 111) dX12_breathe_111 rfl rfl ?_
  refine r_laload (pc := 112) dX12_breathe_112 g20 g21 ?_
  refine r_lload (pc := 113) dX12_breathe_113 1 rfl ?_
  refine r_lload (pc := 115) dX12_breathe_115 0 rfl ?_
  refine r_lsub (pc := 117) dX12_breathe_117 ?_
  refine r_ladd (pc := 118) dX12_breathe_118 ?_
  refine r_lastore (pc := 119) dX12_breathe_119 g20 g21 ?_
  refine r_aload_n (pc := 120) dX12_breathe_120 rfl 4 rfl ?_
  refine r_getS (pc := 121) dX12_breathe_121 fgX12_217 rfl g1 ha19 ?_
  refine r_iload_n (pc := 124) dX12_breathe_124 rfl 5 rfl ?_
  refine r_laload (pc := 125) dX12_breathe_125 g20 g21 ?_
  refine r_lconst (pc := 126) dX12_breathe_126 kc_lconst_0 ?_
  refine r_lcmp (pc := 127) dX12_breathe_127 ?_
  refine r_ifge (pc := 128) (tgt := 141) dX12_breathe_128 rfl (fun c => ?_) (fun c => ?_)
  · have h := it h (lgc_ge.mp c)
    refine r_lconst (pc := 141) dX12_breathe_141 kc_lconst_0 ?_
    refine r_sub [4, 5, 3, 2, 1, 0] rfl ?_
    exact wX12_breathe_b142 h
  · have h := ie h (fun q => c (lgc_ge.mpr q))
    refine r_aload_n (pc := 131) dX12_breathe_131 rfl 4 rfl ?_
    refine r_getS (pc := 132) dX12_breathe_132 fgX12_217 rfl g1 ha19 ?_
    refine r_iload_n (pc := 135) dX12_breathe_135 rfl 5 rfl ?_
    refine r_laload (pc := 136) dX12_breathe_136 g20 g21 ?_
    refine r_lneg (pc := 137) dX12_breathe_137 ?_
    refine r_goto (pc := 138) (tgt := 142) dX12_breathe_138 rfl ?_
    refine r_sub [4, 5, 3, 2, 1, 0] rfl ?_
    exact wX12_breathe_b142 h
abbrev WX12_minute (G : Gx) (l : Launch) (σ0 : Shp) (X1 : Stt) (rv : Option SV) : Stt → Nat → List (Nat × SV) → List SV → Prop := Wm G l yX12_minute cX12_minute 4 (some .int) (fun _ => True) (rmx 6 154 σ0 X1.1) σ0 (Qmx G σ0 X1 rv)
def fX12_minute_l47 (q30 : (Nat → Nat → Int32) → (Nat → Nat → Int64) → (Int32) → (Int32) → (Option ((Nat → Nat → Int32) × (Nat → Nat → Int64) × (Int32)))) (σ : Shp) (D : Nat → Nat → UInt64) (R : Nat → Nat → Option Nat) (t : Nat) : Nat → (Nat → Nat → Int32) → (Nat → Nat → Int64) → (Int32) → (Int32) → (Int32) → Option ((Nat → Nat → Int32) × (Nat → Nat → Int64) × (Int32))
  | 0, _, _, _, _, _ => none
  | n + 1, I, J, x1, x2, x3 =>
    if (3 : Int32) ≤ x3 then
      let v5 := x2 + (1 : Int32)
      q30 I J x1 v5
    else
      if kdx σ t = 13 then
      (fX12_vote σ I J D R t x3).bind fun (I7, J8) =>
      (fX12_steer σ I7 J8 R t x3).bind fun I10 =>
      (fX12_breathe σ I10 J8 R t x3).bind fun (I12, J13) =>
      let v15 := x3 + (1 : Int32)
      fX12_minute_l47 q30 σ D R t n I12 J13 x1 x2 v15
      else none
theorem wX12_minute_l47 {G : Gx} {l : Launch} {σ : Shp} {D : Nat → Nat → UInt64} {R : Nat → Nat → Option Nat} {t : Nat} {I9 : Nat → Nat → Int32} {J9 : Nat → Nat → Int64} {r9 : Int32} {q30 : (Nat → Nat → Int32) → (Nat → Nat → Int64) → (Int32) → (Int32) → (Option ((Nat → Nat → Int32) × (Nat → Nat → Int64) × (Int32)))} (hq30 : ∀ (I : Nat → Nat → Int32) (J : Nat → Nat → Int64) (x1 : Int32) (x2 : Int32), q30 I J x1 x2 = some (I9, J9, r9) → WX12_minute G l σ (σ, I9, J9, D, R) (some (vI r9)) (σ, I, J, D, R) 30 [(0, vR (some t)), (1, vI x1), (2, vI x2)] []) : ∀ (n : Nat) (I : Nat → Nat → Int32) (J : Nat → Nat → Int64) (x1 : Int32) (x2 : Int32) (x3 : Int32), fX12_minute_l47 q30 σ D R t n I J x1 x2 x3 = some (I9, J9, r9) → WX12_minute G l σ (σ, I9, J9, D, R) (some (vI r9)) (σ, I, J, D, R) 47 [(0, vR (some t)), (1, vI x1), (2, vI x2), (3, vI x3)] [] := by
  intro n
  induction n with
  | zero =>
    intro I J x1 x2 x3 h
    have h : none = some _ := h
    cases h
  | succ n ih =>
    intro I J x1 x2 x3 h
    rw [fX12_minute_l47] at h
    refine r_iload_n (pc := 47) dX12_minute_47 rfl 3 rfl ?_
    refine r_iconst (pc := 48) dX12_minute_48 kc_iconst_3 ?_
    refine r_icmp_ge (pc := 49) (tgt := 73) dX12_minute_49 rfl (fun c => ?_) (fun c => ?_)
    · have h := it h c
      refine r_iinc (pc := 73) (v := (x2 + (1 : Int32))) (L' := [(2, vI (x2 + (1 : Int32))), (0, vR (some t)), (1, vI x1), (3, vI x3)]) dX12_minute_73 2 rfl (kc_inc_1 _) (by decide) rfl ?_
      refine r_goto (pc := 76) (tgt := 30) dX12_minute_76 rfl ?_
      refine r_sub [1, 2, 0] rfl ?_
      exact hq30 _ _ _ _ h
    · have h := ie h c
      refine r_aload_n (pc := 52) dX12_minute_52 rfl 0 rfl ?_
      refine r_iload_n (pc := 53) dX12_minute_53 rfl 3 rfl ?_
      obtain ⟨g6, h⟩ := gd h
      obtain ⟨⟨I7, J8⟩, hc9, h⟩ := ob h
      refine r_callV0 (pc := 54) (av := [vI x3]) (S := []) dX12_minute_54 (kX12_vote hc9) g6 rfl mkX12_693 mwX12_vote rfl ⟨Nat.le_of_ble_eq_true rfl, Nat.le_of_ble_eq_true rfl⟩ (Nat.le_of_ble_eq_true rfl) ⟨Nat.le_refl _, Nat.le_refl _⟩ (fun b => b) ?_
      refine r_aload_n (pc := 57) dX12_minute_57 rfl 0 rfl ?_
      refine r_iload_n (pc := 58) dX12_minute_58 rfl 3 rfl ?_
      obtain ⟨I10, hc11, h⟩ := ob h
      refine r_callV0 (pc := 59) (av := [vI x3]) (S := []) dX12_minute_59 (kX12_steer hc11) g6 rfl mkX12_696 mwX12_steer rfl ⟨Nat.le_of_ble_eq_true rfl, Nat.le_of_ble_eq_true rfl⟩ (Nat.le_of_ble_eq_true rfl) ⟨Nat.le_refl _, Nat.le_refl _⟩ (fun b => b) ?_
      refine r_aload_n (pc := 62) dX12_minute_62 rfl 0 rfl ?_
      refine r_iload_n (pc := 63) dX12_minute_63 rfl 3 rfl ?_
      obtain ⟨⟨I12, J13⟩, hc14, h⟩ := ob h
      refine r_callV0 (pc := 64) (av := [vI x3]) (S := []) dX12_minute_64 (kX12_breathe hc14) g6 rfl mkX12_699 mwX12_breathe rfl ⟨Nat.le_of_ble_eq_true rfl, Nat.le_of_ble_eq_true rfl⟩ (Nat.le_of_ble_eq_true rfl) ⟨Nat.le_refl _, Nat.le_refl _⟩ (fun b => b) ?_
      refine r_iinc (pc := 67) (v := (x3 + (1 : Int32))) (L' := [(3, vI (x3 + (1 : Int32))), (0, vR (some t)), (1, vI x1), (2, vI x2)]) dX12_minute_67 3 rfl (kc_inc_1 _) (by decide) rfl ?_
      refine r_goto (pc := 70) (tgt := 47) dX12_minute_70 rfl ?_
      refine r_sub [1, 2, 3, 0] rfl ?_
      exact ih _ _ _ _ _ h
def fX12_minute_l30  (σ : Shp) (D : Nat → Nat → UInt64) (R : Nat → Nat → Option Nat) (t : Nat) : Nat → (Nat → Nat → Int32) → (Nat → Nat → Int64) → (Int32) → (Int32) → Option ((Nat → Nat → Int32) × (Nat → Nat → Int64) × (Int32))
  | 0, _, _, _, _ => none
  | n + 1, I, J, x1, x2 =>
    if x1 ≤ x2 then
      if kdx σ t = 13 then
      some (I, J, (I t 85))
      else none
    else
      if kdx σ t = 13 then
      let I4 := u2 I t 85 ((I t 85) + (1 : Int32))
      fX12_minute_l47 (fX12_minute_l30 σ D R t n) σ D R t FUx I4 J x1 x2 (0 : Int32)
      else none
theorem wX12_minute_l30 {G : Gx} {l : Launch} {σ : Shp} {D : Nat → Nat → UInt64} {R : Nat → Nat → Option Nat} {t : Nat} {I9 : Nat → Nat → Int32} {J9 : Nat → Nat → Int64} {r9 : Int32} : ∀ (n : Nat) (I : Nat → Nat → Int32) (J : Nat → Nat → Int64) (x1 : Int32) (x2 : Int32), fX12_minute_l30 σ D R t n I J x1 x2 = some (I9, J9, r9) → WX12_minute G l σ (σ, I9, J9, D, R) (some (vI r9)) (σ, I, J, D, R) 30 [(0, vR (some t)), (1, vI x1), (2, vI x2)] [] := by
  intro n
  induction n with
  | zero =>
    intro I J x1 x2 h
    have h : none = some _ := h
    cases h
  | succ n ih =>
    intro I J x1 x2 h
    rw [fX12_minute_l30] at h
    refine r_iload_n (pc := 30) dX12_minute_30 rfl 2 rfl ?_
    refine r_iload_n (pc := 31) dX12_minute_31 rfl 1 rfl ?_
    refine r_icmp_ge (pc := 32) (tgt := 79) dX12_minute_32 rfl (fun c => ?_) (fun c => ?_)
    · have h := it h c
      refine r_aload_n (pc := 79) dX12_minute_79 rfl 0 rfl ?_
      obtain ⟨g2, h⟩ := gd h
      refine r_getI (pc := 80) dX12_minute_80 fgX12_643 rfl g2 ?_
      cases h
      exact r_iret dX12_minute_83
    · have h := ie h c
      refine r_aload_n (pc := 35) dX12_minute_35 rfl 0 rfl ?_
      refine r_dup (pc := 36) dX12_minute_36 rfl ?_
      obtain ⟨g3, h⟩ := gd h
      refine r_getI (pc := 37) dX12_minute_37 fgX12_643 rfl g3 ?_
      refine r_iconst (pc := 40) dX12_minute_40 kc_iconst_1 ?_
      refine r_iadd (pc := 41) dX12_minute_41 ?_
      refine r_putI (pc := 42) dX12_minute_42 fwX12_643 rfl g3 ?_
      refine r_iconst (pc := 45) dX12_minute_45 kc_iconst_0 ?_
      refine r_istore_n (pc := 46) (L' := [(3, vI (0 : Int32)), (0, vR (some t)), (1, vI x1), (2, vI x2)]) dX12_minute_46 rfl (by decide) rfl ?_
      refine r_sub [1, 2, 3, 0] rfl ?_
      exact wX12_minute_l47 ih _ _ _ _ _ _ h
def fX12_minute (σ : Shp) (I : Nat → Nat → Int32) (J : Nat → Nat → Int64) (D : Nat → Nat → UInt64) (R : Nat → Nat → Option Nat) (t : Nat) (x1 : Int32) : Option ((Nat → Nat → Int32) × (Nat → Nat → Int64) × (Int32)) :=
  if (fX12_in x1 (1 : Int32) (100 : Int32)) = 0 then
    some (I, J, (-2 : Int32))
  else
    if kdx σ t = 13 then
    if ((I t 85) + x1) ≤ (100000 : Int32) then
      fX12_minute_l30 σ D R t FUx I J x1 (0 : Int32)
    else
      some (I, J, (-4 : Int32))
    else none
theorem kX12_minute {G : Gx} {l : Launch} {σ : Shp} {I : Nat → Nat → Int32} {J : Nat → Nat → Int64} {D : Nat → Nat → UInt64} {R : Nat → Nat → Option Nat} {t : Nat} {x1 : Int32} {I9 : Nat → Nat → Int32} {J9 : Nat → Nat → Int64} {r9 : Int32} (h : fX12_minute σ I J D R t x1 = some (I9, J9, r9)) : Con G l yX12_minute cX12_minute 4 (some .int) 6 154 [vR (some t), vI x1] (σ, I, J, D, R) (σ, I9, J9, D, R) (some (vI r9)) := by
  unfold fX12_minute at h
  refine Con.mk (by decide +kernel) rfl (Nat.le_of_ble_eq_true rfl) ?_
  show WX12_minute G l σ (σ, I9, J9, D, R) (some (vI r9)) (σ, I, J, D, R) 0 _ []
  refine r_iload_n (pc := 0) dX12_minute_0 rfl 1 rfl ?_
  refine r_iconst (pc := 1) dX12_minute_1 kc_iconst_1 ?_
  refine r_bipush (pc := 2) dX12_minute_2 kc_bipush_100 ?_
  refine r_callS1 (pc := 4) (av := [vI x1, vI (1 : Int32), vI (100 : Int32)]) (S := []) dX12_minute_4 (kX12_in rfl) mkX12_322 mwX12_in rfl ⟨Nat.le_of_ble_eq_true rfl, Nat.le_of_ble_eq_true rfl⟩ (Nat.le_of_ble_eq_true rfl) ⟨Nat.le_refl _, Nat.le_refl _⟩ (fun b => b) ?_
  refine r_ifne (pc := 7) (tgt := 13) dX12_minute_7 rfl (fun c => ?_) (fun c => ?_)
  · have h := ie h c
    refine r_aload_n (pc := 13) dX12_minute_13 rfl 0 rfl ?_
    obtain ⟨g1, h⟩ := gd h
    refine r_getI (pc := 14) dX12_minute_14 fgX12_643 rfl g1 ?_
    refine r_iload_n (pc := 17) dX12_minute_17 rfl 1 rfl ?_
    refine r_iadd (pc := 18) dX12_minute_18 ?_
    refine r_ldcw (pc := 19) dX12_minute_19 ciX12_692 ?_
    refine r_icmp_le (pc := 22) (tgt := 28) dX12_minute_22 rfl (fun c => ?_) (fun c => ?_)
    · have h := it h c
      refine r_iconst (pc := 28) dX12_minute_28 kc_iconst_0 ?_
      refine r_istore_n (pc := 29) (L' := [(2, vI (0 : Int32)), (0, vR (some t)), (1, vI x1)]) dX12_minute_29 rfl (by decide) rfl ?_
      refine r_sub [1, 2, 0] rfl ?_
      exact wX12_minute_l30 _ _ _ _ _ h
    · have h := ie h c
      refine r_bipush (pc := 25) dX12_minute_25 kc_bipush_m4 ?_
      cases h
      exact r_iret dX12_minute_27
  · have h := it h c
    refine r_bipush (pc := 10) dX12_minute_10 kc_bipush_m2 ?_
    cases h
    exact r_iret dX12_minute_12
abbrev WX12_air (G : Gx) (l : Launch) (σ0 : Shp) (X1 : Stt) (rv : Option SV) : Stt → Nat → List (Nat × SV) → List SV → Prop := Wm G l yX12_air cX12_air 3 (some .long) (fun _ => True) (rmx 1 22 σ0 X1.1) σ0 (Qmx G σ0 X1 rv)
def fX12_air (σ : Shp) (I : Nat → Nat → Int32) (J : Nat → Nat → Int64) (R : Nat → Nat → Option Nat) (t : Nat) (x1 : Int32) (x2 : Int32) : Option ((Int64)) :=
  if (fX12_in x1 (0 : Int32) (2 : Int32)) = 0 then
    some (0 : Int64)
  else
    if x2 = (0 : Int32) then
      if kdx σ t = 13 then
      ((R t 97) : Option Nat).bind fun a32 =>
      if kdx σ a32 = 21 then
      if ¬ (x1 < 0 ∨ lnx σ a32 ≤ Int32.toNatClampNeg x1) then
      some (J a32 (Int32.toNatClampNeg x1))
      else none
      else none
      else none
    else
    if x2 = (1 : Int32) then
      if kdx σ t = 13 then
      ((R t 98) : Option Nat).bind fun a28 =>
      if kdx σ a28 = 21 then
      if ¬ (x1 < 0 ∨ lnx σ a28 ≤ Int32.toNatClampNeg x1) then
      some (J a28 (Int32.toNatClampNeg x1))
      else none
      else none
      else none
    else
    if x2 = (2 : Int32) then
      if kdx σ t = 13 then
      ((R t 102) : Option Nat).bind fun a24 =>
      if kdx σ a24 = 21 then
      if ¬ (((6 : Int32) * x1) < 0 ∨ lnx σ a24 ≤ Int32.toNatClampNeg ((6 : Int32) * x1)) then
      some (J a24 (Int32.toNatClampNeg ((6 : Int32) * x1)))
      else none
      else none
      else none
    else
    if x2 = (3 : Int32) then
      if kdx σ t = 13 then
      ((R t 99) : Option Nat).bind fun a20 =>
      if kdx σ a20 = 20 then
      if ¬ (x1 < 0 ∨ lnx σ a20 ≤ Int32.toNatClampNeg x1) then
      some (Int32.toInt64 (I a20 (Int32.toNatClampNeg x1)))
      else none
      else none
      else none
    else
    if x2 = (4 : Int32) then
      if kdx σ t = 13 then
      ((R t 100) : Option Nat).bind fun a16 =>
      if kdx σ a16 = 20 then
      if ¬ (x1 < 0 ∨ lnx σ a16 ≤ Int32.toNatClampNeg x1) then
      some (Int32.toInt64 (I a16 (Int32.toNatClampNeg x1)))
      else none
      else none
      else none
    else
    if x2 = (5 : Int32) then
      if kdx σ t = 13 then
      ((R t 101) : Option Nat).bind fun a12 =>
      if kdx σ a12 = 20 then
      if ¬ (x1 < 0 ∨ lnx σ a12 ≤ Int32.toNatClampNeg x1) then
      some (Int32.toInt64 (I a12 (Int32.toNatClampNeg x1)))
      else none
      else none
      else none
    else
    if (fX12_in x2 (6 : Int32) (10 : Int32)) = 0 then
      some (0 : Int64)
    else
      if kdx σ t = 13 then
      ((R t 102) : Option Nat).bind fun a8 =>
      if kdx σ a8 = 21 then
      if ¬ (((((6 : Int32) * x1) + x2) - (5 : Int32)) < 0 ∨ lnx σ a8 ≤ Int32.toNatClampNeg ((((6 : Int32) * x1) + x2) - (5 : Int32))) then
      some (J a8 (Int32.toNatClampNeg ((((6 : Int32) * x1) + x2) - (5 : Int32))))
      else none
      else none
      else none
theorem kX12_air {G : Gx} {l : Launch} {σ : Shp} {I : Nat → Nat → Int32} {J : Nat → Nat → Int64} {D : Nat → Nat → UInt64} {R : Nat → Nat → Option Nat} {t : Nat} {x1 : Int32} {x2 : Int32} {r9 : Int64} (h : fX12_air σ I J R t x1 x2 = some r9) : Con G l yX12_air cX12_air 3 (some .long) 1 22 [vR (some t), vI x1, vI x2] (σ, I, J, D, R) (σ, I, J, D, R) (some (vL r9)) := by
  unfold fX12_air at h
  refine Con.mk (by decide +kernel) rfl (Nat.le_of_ble_eq_true rfl) ?_
  show WX12_air G l σ (σ, I, J, D, R) (some (vL r9)) (σ, I, J, D, R) 0 _ []
  refine r_iload_n (pc := 0) dX12_air_0 rfl 1 rfl ?_
  refine r_iconst (pc := 1) dX12_air_1 kc_iconst_0 ?_
  refine r_iconst (pc := 2) dX12_air_2 kc_iconst_2 ?_
  refine r_callS1 (pc := 3) (av := [vI x1, vI (0 : Int32), vI (2 : Int32)]) (S := []) dX12_air_3 (kX12_in rfl) mkX12_322 mwX12_in rfl ⟨Nat.le_of_ble_eq_true rfl, Nat.le_of_ble_eq_true rfl⟩ (Nat.le_of_ble_eq_true rfl) ⟨Nat.le_refl _, Nat.le_refl _⟩ (fun b => b) ?_
  refine r_ifne (pc := 6) (tgt := 11) dX12_air_6 rfl (fun c => ?_) (fun c => ?_)
  · have h := ie h c
    refine r_iload_n (pc := 11) dX12_air_11 rfl 2 rfl ?_
    rcases itc h with ⟨c1, h⟩ | ⟨c1, h⟩
    · refine r_tsIn (x := x2) (pc := 12) (tgt := 52) dX12_air_12 (by rw [c1]; decide) (by rw [c1]; decide) (by rw [c1]; rfl) rfl ?_
      refine r_aload_n (pc := 52) dX12_air_52 rfl 0 rfl ?_
      obtain ⟨g31, h⟩ := gd h
      obtain ⟨a32, ha32, h⟩ := ob h
      refine r_getS (pc := 53) dX12_air_53 fgX12_212 rfl g31 ha32 ?_
      refine r_iload_n (pc := 56) dX12_air_56 rfl 1 rfl ?_
      obtain ⟨g33, h⟩ := gd h
      obtain ⟨g34, h⟩ := gd h
      refine r_laload (pc := 57) dX12_air_57 g33 g34 ?_
      cases h
      exact r_lret dX12_air_58
    · rcases itc h with ⟨c2, h⟩ | ⟨c2, h⟩
      · refine r_tsIn (x := x2) (pc := 12) (tgt := 59) dX12_air_12 (by rw [c2]; decide) (by rw [c2]; decide) (by rw [c2]; rfl) rfl ?_
        refine r_aload_n (pc := 59) dX12_air_59 rfl 0 rfl ?_
        obtain ⟨g27, h⟩ := gd h
        obtain ⟨a28, ha28, h⟩ := ob h
        refine r_getS (pc := 60) dX12_air_60 fgX12_217 rfl g27 ha28 ?_
        refine r_iload_n (pc := 63) dX12_air_63 rfl 1 rfl ?_
        obtain ⟨g29, h⟩ := gd h
        obtain ⟨g30, h⟩ := gd h
        refine r_laload (pc := 64) dX12_air_64 g29 g30 ?_
        cases h
        exact r_lret dX12_air_65
      · rcases itc h with ⟨c3, h⟩ | ⟨c3, h⟩
        · refine r_tsIn (x := x2) (pc := 12) (tgt := 66) dX12_air_12 (by rw [c3]; decide) (by rw [c3]; decide) (by rw [c3]; rfl) rfl ?_
          refine r_aload_n (pc := 66) dX12_air_66 rfl 0 rfl ?_
          obtain ⟨g23, h⟩ := gd h
          obtain ⟨a24, ha24, h⟩ := ob h
          refine r_getS (pc := 67) dX12_air_67 fgX12_229 rfl g23 ha24 ?_
          refine r_bipush (pc := 70) dX12_air_70 kc_bipush_6 ?_
          refine r_iload_n (pc := 72) dX12_air_72 rfl 1 rfl ?_
          refine r_imul (pc := 73) dX12_air_73 ?_
          obtain ⟨g25, h⟩ := gd h
          obtain ⟨g26, h⟩ := gd h
          refine r_laload (pc := 74) dX12_air_74 g25 g26 ?_
          cases h
          exact r_lret dX12_air_75
        · rcases itc h with ⟨c4, h⟩ | ⟨c4, h⟩
          · refine r_tsIn (x := x2) (pc := 12) (tgt := 76) dX12_air_12 (by rw [c4]; decide) (by rw [c4]; decide) (by rw [c4]; rfl) rfl ?_
            refine r_aload_n (pc := 76) dX12_air_76 rfl 0 rfl ?_
            obtain ⟨g19, h⟩ := gd h
            obtain ⟨a20, ha20, h⟩ := ob h
            refine r_getS (pc := 77) dX12_air_77 fgX12_220 rfl g19 ha20 ?_
            refine r_iload_n (pc := 80) dX12_air_80 rfl 1 rfl ?_
            obtain ⟨g21, h⟩ := gd h
            obtain ⟨g22, h⟩ := gd h
            refine r_iaload (pc := 81) dX12_air_81 g21 g22 ?_
            refine r_i2l (pc := 82) dX12_air_82 ?_
            cases h
            exact r_lret dX12_air_83
          · rcases itc h with ⟨c5, h⟩ | ⟨c5, h⟩
            · refine r_tsIn (x := x2) (pc := 12) (tgt := 84) dX12_air_12 (by rw [c5]; decide) (by rw [c5]; decide) (by rw [c5]; rfl) rfl ?_
              refine r_aload_n (pc := 84) dX12_air_84 rfl 0 rfl ?_
              obtain ⟨g15, h⟩ := gd h
              obtain ⟨a16, ha16, h⟩ := ob h
              refine r_getS (pc := 85) dX12_air_85 fgX12_223 rfl g15 ha16 ?_
              refine r_iload_n (pc := 88) dX12_air_88 rfl 1 rfl ?_
              obtain ⟨g17, h⟩ := gd h
              obtain ⟨g18, h⟩ := gd h
              refine r_iaload (pc := 89) dX12_air_89 g17 g18 ?_
              refine r_i2l (pc := 90) dX12_air_90 ?_
              cases h
              exact r_lret dX12_air_91
            · rcases itc h with ⟨c6, h⟩ | ⟨c6, h⟩
              · refine r_tsIn (x := x2) (pc := 12) (tgt := 92) dX12_air_12 (by rw [c6]; decide) (by rw [c6]; decide) (by rw [c6]; rfl) rfl ?_
                refine r_aload_n (pc := 92) dX12_air_92 rfl 0 rfl ?_
                obtain ⟨g11, h⟩ := gd h
                obtain ⟨a12, ha12, h⟩ := ob h
                refine r_getS (pc := 93) dX12_air_93 fgX12_226 rfl g11 ha12 ?_
                refine r_iload_n (pc := 96) dX12_air_96 rfl 1 rfl ?_
                obtain ⟨g13, h⟩ := gd h
                obtain ⟨g14, h⟩ := gd h
                refine r_iaload (pc := 97) dX12_air_97 g13 g14 ?_
                refine r_i2l (pc := 98) dX12_air_98 ?_
                cases h
                exact r_lret dX12_air_99
              · refine r_tsOut (x := x2) (pc := 12) (tgt := 100) dX12_air_12 (by have ec1 := i32n c1 (k := 0) rfl; have ec2 := i32n c2 (k := 1) rfl; have ec3 := i32n c3 (k := 2) rfl; have ec4 := i32n c4 (k := 3) rfl; have ec5 := i32n c5 (k := 4) rfl; have ec6 := i32n c6 (k := 5) rfl; omega) rfl ?_
                refine r_iload_n (pc := 100) dX12_air_100 rfl 2 rfl ?_
                refine r_bipush (pc := 101) dX12_air_101 kc_bipush_6 ?_
                refine r_bipush (pc := 103) dX12_air_103 kc_bipush_10 ?_
                refine r_callS1 (pc := 105) (av := [vI x2, vI (6 : Int32), vI (10 : Int32)]) (S := []) dX12_air_105 (kX12_in rfl) mkX12_322 mwX12_in rfl ⟨Nat.le_of_ble_eq_true rfl, Nat.le_of_ble_eq_true rfl⟩ (Nat.le_of_ble_eq_true rfl) ⟨Nat.le_refl _, Nat.le_refl _⟩ (fun b => b) ?_
                refine r_if_eq (pc := 108) (tgt := 127) dX12_air_108 rfl (fun c => ?_) (fun c => ?_)
                · have h := it h c
                  refine r_lconst (pc := 127) dX12_air_127 kc_lconst_0 ?_
                  cases h
                  exact r_lret dX12_air_128
                · have h := ie h c
                  refine r_aload_n (pc := 111) dX12_air_111 rfl 0 rfl ?_
                  obtain ⟨g7, h⟩ := gd h
                  obtain ⟨a8, ha8, h⟩ := ob h
                  refine r_getS (pc := 112) dX12_air_112 fgX12_229 rfl g7 ha8 ?_
                  refine r_bipush (pc := 115) dX12_air_115 kc_bipush_6 ?_
                  refine r_iload_n (pc := 117) dX12_air_117 rfl 1 rfl ?_
                  refine r_imul (pc := 118) dX12_air_118 ?_
                  refine r_iload_n (pc := 119) dX12_air_119 rfl 2 rfl ?_
                  refine r_iadd (pc := 120) dX12_air_120 ?_
                  refine r_iconst (pc := 121) dX12_air_121 kc_iconst_5 ?_
                  refine r_isub (pc := 122) dX12_air_122 ?_
                  obtain ⟨g9, h⟩ := gd h
                  obtain ⟨g10, h⟩ := gd h
                  refine r_laload (pc := 123) dX12_air_123 g9 g10 ?_
                  refine r_goto (pc := 124) (tgt := 128) dX12_air_124 rfl ?_
                  cases h
                  exact r_lret dX12_air_128
  · have h := it h c
    refine r_lconst (pc := 9) dX12_air_9 kc_lconst_0 ?_
    cases h
    exact r_lret dX12_air_10
abbrev WX12_partWhole (G : Gx) (l : Launch) (σ0 : Shp) (X1 : Stt) (rv : Option SV) : Stt → Nat → List (Nat × SV) → List SV → Prop := Wm G l yX12_partWhole cX12_partWhole 10 none (fun _ => True) (rmx 0 0 σ0 X1.1) σ0 (Qmx G σ0 X1 rv)
def fX12_partWhole_l111 (q98 : (Nat → Nat → Int64) → (Int32) → (Int64) → (Option ((Nat → Nat → Int64)))) (σ : Shp) (R : Nat → Nat → Option Nat) (t : Nat) : Nat → (Nat → Nat → Int64) → (Int32) → (Int64) → (Int32) → (Int32) → Option ((Nat → Nat → Int64))
  | 0, _, _, _, _, _ => none
  | n + 1, J, x3, x6, x8, x9 =>
    if x3 ≤ x9 then
      if kdx σ t = 13 then
      ((R t 106) : Option Nat).bind fun a2 =>
      if kdx σ a2 = 21 then
      if ¬ (x8 < 0 ∨ lnx σ a2 ≤ Int32.toNatClampNeg x8) then
      let J5 := u2 J a2 (Int32.toNatClampNeg x8) ((J a2 (Int32.toNatClampNeg x8)) + (1 : Int64))
      ((R t 107) : Option Nat).bind fun a6 =>
      if kdx σ a6 = 21 then
      if ¬ (x8 < 0 ∨ lnx σ a6 ≤ Int32.toNatClampNeg x8) then
      let J9 := u2 J5 a6 (Int32.toNatClampNeg x8) (-1 : Int64)
      let v10 := (x6 - (1 : Int64))
      q98 J9 x3 v10
      else none
      else none
      else none
      else none
      else none
    else
      if kdx σ t = 13 then
      ((R t 107) : Option Nat).bind fun a12 =>
      if kdx σ a12 = 21 then
      if ¬ (x9 < 0 ∨ lnx σ a12 ≤ Int32.toNatClampNeg x9) then
      if ¬ (x8 < 0 ∨ lnx σ a12 ≤ Int32.toNatClampNeg x8) then
      if (J a12 (Int32.toNatClampNeg x9)) ≤ (J a12 (Int32.toNatClampNeg x8)) then
        let v16 := x9 + (1 : Int32)
        fX12_partWhole_l111 q98 σ R t n J x3 x6 x8 v16
      else
        let v17 := x9 + (1 : Int32)
        fX12_partWhole_l111 q98 σ R t n J x3 x6 x9 v17
      else none
      else none
      else none
      else none
theorem wX12_partWhole_l111 {G : Gx} {l : Launch} {σ : Shp} {I : Nat → Nat → Int32} {D : Nat → Nat → UInt64} {R : Nat → Nat → Option Nat} {t : Nat} {J9 : Nat → Nat → Int64} {q98 : (Nat → Nat → Int64) → (Int32) → (Int64) → (Option ((Nat → Nat → Int64)))} (hq98 : ∀ (J : Nat → Nat → Int64) (x3 : Int32) (x6 : Int64), q98 J x3 x6 = some J9 → WX12_partWhole G l σ (σ, I, J9, D, R) none (σ, I, J, D, R) 98 [(0, vR (some t)), (3, vI x3), (6, vL x6)] []) : ∀ (n : Nat) (J : Nat → Nat → Int64) (x3 : Int32) (x6 : Int64) (x8 : Int32) (x9 : Int32), fX12_partWhole_l111 q98 σ R t n J x3 x6 x8 x9 = some J9 → WX12_partWhole G l σ (σ, I, J9, D, R) none (σ, I, J, D, R) 111 [(0, vR (some t)), (3, vI x3), (6, vL x6), (8, vI x8), (9, vI x9)] [] := by
  intro n
  induction n with
  | zero =>
    intro J x3 x6 x8 x9 h
    have h : none = some _ := h
    cases h
  | succ n ih =>
    intro J x3 x6 x8 x9 h
    rw [fX12_partWhole_l111] at h
    refine r_iload (pc := 111) dX12_partWhole_111 4 rfl ?_
    refine r_iload_n (pc := 113) dX12_partWhole_113 rfl 1 rfl ?_
    refine r_icmp_ge (pc := 114) (tgt := 150) dX12_partWhole_114 rfl (fun c => ?_) (fun c => ?_)
    · have h := it h c
      refine r_aload_n (pc := 150) dX12_partWhole_150 rfl 0 rfl ?_
      obtain ⟨g1, h⟩ := gd h
      obtain ⟨a2, ha2, h⟩ := ob h
      refine r_getS (pc := 151) dX12_partWhole_151 fgX12_241 rfl g1 ha2 ?_
      refine r_iload (pc := 154) dX12_partWhole_154 3 rfl ?_
      refine r_dup2 (pc := 156) dX12_partWhole_156 rfl rfl ?_
      obtain ⟨g3, h⟩ := gd h
      obtain ⟨g4, h⟩ := gd h
      refine r_laload (pc := 157) dX12_partWhole_157 g3 g4 ?_
      refine r_lconst (pc := 158) dX12_partWhole_158 kc_lconst_1 ?_
      refine r_ladd (pc := 159) dX12_partWhole_159 ?_
      refine r_lastore (pc := 160) dX12_partWhole_160 g3 g4 ?_
      refine r_aload_n (pc := 161) dX12_partWhole_161 rfl 0 rfl ?_
      obtain ⟨a6, ha6, h⟩ := ob h
      refine r_getS (pc := 162) dX12_partWhole_162 fgX12_244 rfl g1 ha6 ?_
      refine r_iload (pc := 165) dX12_partWhole_165 3 rfl ?_
      refine r_ldc2 (pc := 167) dX12_partWhole_167 clX12_634 ?_
      obtain ⟨g7, h⟩ := gd h
      obtain ⟨g8, h⟩ := gd h
      refine r_lastore (pc := 170) dX12_partWhole_170 g7 g8 ?_
      refine r_lload (pc := 171) dX12_partWhole_171 2 rfl ?_
      refine r_lconst (pc := 173) dX12_partWhole_173 kc_lconst_1 ?_
      refine r_lsub (pc := 174) dX12_partWhole_174 ?_
      refine r_lstore (pc := 175) (L' := [(6, vL (x6 - (1 : Int64))), (0, vR (some t)), (3, vI x3), (8, vI x8), (9, vI x9)]) dX12_partWhole_175 (by decide) rfl ?_
      refine r_goto (pc := 177) (tgt := 98) dX12_partWhole_177 rfl ?_
      refine r_sub [1, 2, 0] rfl ?_
      exact hq98 _ _ _ h
    · have h := ie h c
      refine r_aload_n (pc := 117) dX12_partWhole_117 rfl 0 rfl ?_
      obtain ⟨g11, h⟩ := gd h
      obtain ⟨a12, ha12, h⟩ := ob h
      refine r_getS (pc := 118) dX12_partWhole_118 fgX12_244 rfl g11 ha12 ?_
      refine r_iload (pc := 121) dX12_partWhole_121 4 rfl ?_
      obtain ⟨g13, h⟩ := gd h
      obtain ⟨g14, h⟩ := gd h
      refine r_laload (pc := 123) dX12_partWhole_123 g13 g14 ?_
      refine r_aload_n (pc := 124) dX12_partWhole_124 rfl 0 rfl ?_
      refine r_getS (pc := 125) dX12_partWhole_125 fgX12_244 rfl g11 ha12 ?_
      refine r_iload (pc := 128) dX12_partWhole_128 3 rfl ?_
      obtain ⟨g15, h⟩ := gd h
      refine r_laload (pc := 130) dX12_partWhole_130 g13 g15 ?_
      refine r_lcmp (pc := 131) dX12_partWhole_131 ?_
      refine r_if_le (pc := 132) (tgt := 140) dX12_partWhole_132 rfl (fun c => ?_) (fun c => ?_)
      · have h := it h (lgc_le.mp c)
        refine r_iload (pc := 140) dX12_partWhole_140 3 rfl ?_
        refine r_istore (pc := 142) (L' := [(8, vI x8), (0, vR (some t)), (3, vI x3), (6, vL x6), (9, vI x9)]) dX12_partWhole_142 (by decide) rfl ?_
        refine r_iinc (pc := 144) (v := (x9 + (1 : Int32))) (L' := [(9, vI (x9 + (1 : Int32))), (8, vI x8), (0, vR (some t)), (3, vI x3), (6, vL x6)]) dX12_partWhole_144 4 rfl (kc_inc_1 _) (by decide) rfl ?_
        refine r_goto (pc := 147) (tgt := 111) dX12_partWhole_147 rfl ?_
        refine r_sub [2, 3, 4, 1, 0] rfl ?_
        exact ih _ _ _ _ _ h
      · have h := ie h (fun q => c (lgc_le.mpr q))
        refine r_iload (pc := 135) dX12_partWhole_135 4 rfl ?_
        refine r_goto (pc := 137) (tgt := 142) dX12_partWhole_137 rfl ?_
        refine r_istore (pc := 142) (L' := [(8, vI x9), (0, vR (some t)), (3, vI x3), (6, vL x6), (9, vI x9)]) dX12_partWhole_142 (by decide) rfl ?_
        refine r_iinc (pc := 144) (v := (x9 + (1 : Int32))) (L' := [(9, vI (x9 + (1 : Int32))), (8, vI x9), (0, vR (some t)), (3, vI x3), (6, vL x6)]) dX12_partWhole_144 4 rfl (kc_inc_1 _) (by decide) rfl ?_
        refine r_goto (pc := 147) (tgt := 111) dX12_partWhole_147 rfl ?_
        refine r_sub [2, 3, 4, 1, 0] rfl ?_
        exact ih _ _ _ _ _ h
def fX12_partWhole_l98  (σ : Shp) (R : Nat → Nat → Option Nat) (t : Nat) : Nat → (Nat → Nat → Int64) → (Int32) → (Int64) → Option ((Nat → Nat → Int64))
  | 0, _, _, _ => none
  | n + 1, J, x3, x6 =>
    if x6 ≤ (0 : Int64) then
      some J
    else
      fX12_partWhole_l111 (fX12_partWhole_l98 σ R t n) σ R t FUx J x3 x6 (0 : Int32) (1 : Int32)
theorem wX12_partWhole_l98 {G : Gx} {l : Launch} {σ : Shp} {I : Nat → Nat → Int32} {D : Nat → Nat → UInt64} {R : Nat → Nat → Option Nat} {t : Nat} {J9 : Nat → Nat → Int64} : ∀ (n : Nat) (J : Nat → Nat → Int64) (x3 : Int32) (x6 : Int64), fX12_partWhole_l98 σ R t n J x3 x6 = some J9 → WX12_partWhole G l σ (σ, I, J9, D, R) none (σ, I, J, D, R) 98 [(0, vR (some t)), (3, vI x3), (6, vL x6)] [] := by
  intro n
  induction n with
  | zero =>
    intro J x3 x6 h
    have h : none = some _ := h
    cases h
  | succ n ih =>
    intro J x3 x6 h
    rw [fX12_partWhole_l98] at h
    refine r_lload (pc := 98) dX12_partWhole_98 2 rfl ?_
    refine r_lconst (pc := 100) dX12_partWhole_100 kc_lconst_0 ?_
    refine r_lcmp (pc := 101) dX12_partWhole_101 ?_
    refine r_if_le (pc := 102) (tgt := 180) dX12_partWhole_102 rfl (fun c => ?_) (fun c => ?_)
    · have h := it h (lgc_le.mp c)
      cases h
      exact r_vret dX12_partWhole_180
    · have h := ie h (fun q => c (lgc_le.mpr q))
      refine r_iconst (pc := 105) dX12_partWhole_105 kc_iconst_0 ?_
      refine r_istore (pc := 106) (L' := [(8, vI (0 : Int32)), (0, vR (some t)), (3, vI x3), (6, vL x6)]) dX12_partWhole_106 (by decide) rfl ?_
      refine r_iconst (pc := 108) dX12_partWhole_108 kc_iconst_1 ?_
      refine r_istore (pc := 109) (L' := [(9, vI (1 : Int32)), (8, vI (0 : Int32)), (0, vR (some t)), (3, vI x3), (6, vL x6)]) dX12_partWhole_109 (by decide) rfl ?_
      refine r_sub [2, 3, 4, 1, 0] rfl ?_
      exact wX12_partWhole_l111 ih _ _ _ _ _ _ h
def fX12_partWhole_l36  (σ : Shp) (R : Nat → Nat → Option Nat) (t : Nat) : Nat → (Nat → Nat → Int64) → (Int64) → (Int32) → (Int64) → (Int64) → (Int32) → Option ((Nat → Nat → Int64))
  | 0, _, _, _, _, _, _ => none
  | n + 1, J, x1, x3, x4, x6, x8 =>
    if x3 ≤ x8 then
      fX12_partWhole_l98 σ R t FUx J x3 x6
    else
      if kdx σ t = 13 then
      ((R t 106) : Option Nat).bind fun a19 =>
      ((R t 108) : Option Nat).bind fun a20 =>
      if kdx σ a20 = 21 then
      if ¬ (x8 < 0 ∨ lnx σ a20 ≤ Int32.toNatClampNeg x8) then
      if ¬ x4 = 0 then
      if kdx σ a19 = 21 then
      if ¬ (x8 < 0 ∨ lnx σ a19 ≤ Int32.toNatClampNeg x8) then
      let J26 := u2 J a19 (Int32.toNatClampNeg x8) ((x1 * (J a20 (Int32.toNatClampNeg x8))) / x4)
      ((R t 107) : Option Nat).bind fun a27 =>
      if kdx σ a27 = 21 then
      if ¬ (x8 < 0 ∨ lnx σ a27 ≤ Int32.toNatClampNeg x8) then
      let J30 := u2 J26 a27 (Int32.toNatClampNeg x8) ((x1 * (J26 a20 (Int32.toNatClampNeg x8))) - (x1 * (J26 a20 (Int32.toNatClampNeg x8))) / x4 * x4)
      let v31 := (x6 - (J30 a19 (Int32.toNatClampNeg x8)))
      let v32 := x8 + (1 : Int32)
      fX12_partWhole_l36 σ R t n J30 x1 x3 x4 v31 v32
      else none
      else none
      else none
      else none
      else none
      else none
      else none
      else none
theorem wX12_partWhole_l36 {G : Gx} {l : Launch} {σ : Shp} {I : Nat → Nat → Int32} {D : Nat → Nat → UInt64} {R : Nat → Nat → Option Nat} {t : Nat} {J9 : Nat → Nat → Int64} : ∀ (n : Nat) (J : Nat → Nat → Int64) (x1 : Int64) (x3 : Int32) (x4 : Int64) (x6 : Int64) (x8 : Int32), fX12_partWhole_l36 σ R t n J x1 x3 x4 x6 x8 = some J9 → WX12_partWhole G l σ (σ, I, J9, D, R) none (σ, I, J, D, R) 36 [(0, vR (some t)), (1, vL x1), (3, vI x3), (4, vL x4), (6, vL x6), (8, vI x8)] [] := by
  intro n
  induction n with
  | zero =>
    intro J x1 x3 x4 x6 x8 h
    have h : none = some _ := h
    cases h
  | succ n ih =>
    intro J x1 x3 x4 x6 x8 h
    rw [fX12_partWhole_l36] at h
    refine r_iload (pc := 36) dX12_partWhole_36 5 rfl ?_
    refine r_iload_n (pc := 38) dX12_partWhole_38 rfl 2 rfl ?_
    refine r_icmp_ge (pc := 39) (tgt := 98) dX12_partWhole_39 rfl (fun c => ?_) (fun c => ?_)
    · have h := it h c
      refine r_sub [0, 2, 4] rfl ?_
      exact wX12_partWhole_l98 _ _ _ _ h
    · have h := ie h c
      refine r_aload_n (pc := 42) dX12_partWhole_42 rfl 0 rfl ?_
      obtain ⟨g18, h⟩ := gd h
      obtain ⟨a19, ha19, h⟩ := ob h
      refine r_getS (pc := 43) dX12_partWhole_43 fgX12_241 rfl g18 ha19 ?_
      refine r_iload (pc := 46) dX12_partWhole_46 5 rfl ?_
      refine r_lload_n (pc := 48) dX12_partWhole_48 rfl 1 rfl ?_
      refine r_aload_n (pc := 49) dX12_partWhole_49 rfl 0 rfl ?_
      obtain ⟨a20, ha20, h⟩ := ob h
      refine r_getS (pc := 50) dX12_partWhole_50 fgX12_247 rfl g18 ha20 ?_
      refine r_iload (pc := 53) dX12_partWhole_53 5 rfl ?_
      obtain ⟨g21, h⟩ := gd h
      obtain ⟨g22, h⟩ := gd h
      refine r_laload (pc := 55) dX12_partWhole_55 g21 g22 ?_
      refine r_lmul (pc := 56) dX12_partWhole_56 ?_
      refine r_lload (pc := 57) dX12_partWhole_57 3 rfl ?_
      obtain ⟨g23, h⟩ := gd h
      refine r_ldiv (pc := 59) dX12_partWhole_59 g23 ?_
      obtain ⟨g24, h⟩ := gd h
      obtain ⟨g25, h⟩ := gd h
      refine r_lastore (pc := 60) dX12_partWhole_60 g24 g25 ?_
      refine r_aload_n (pc := 61) dX12_partWhole_61 rfl 0 rfl ?_
      obtain ⟨a27, ha27, h⟩ := ob h
      refine r_getS (pc := 62) dX12_partWhole_62 fgX12_244 rfl g18 ha27 ?_
      refine r_iload (pc := 65) dX12_partWhole_65 5 rfl ?_
      refine r_lload_n (pc := 67) dX12_partWhole_67 rfl 1 rfl ?_
      refine r_aload_n (pc := 68) dX12_partWhole_68 rfl 0 rfl ?_
      refine r_getS (pc := 69) dX12_partWhole_69 fgX12_247 rfl g18 ha20 ?_
      refine r_iload (pc := 72) dX12_partWhole_72 5 rfl ?_
      refine r_laload (pc := 74) dX12_partWhole_74 g21 g22 ?_
      refine r_lmul (pc := 75) dX12_partWhole_75 ?_
      refine r_lload (pc := 76) dX12_partWhole_76 3 rfl ?_
      refine r_lrem (pc := 78) dX12_partWhole_78 g23 ?_
      obtain ⟨g28, h⟩ := gd h
      obtain ⟨g29, h⟩ := gd h
      refine r_lastore (pc := 79) dX12_partWhole_79 g28 g29 ?_
      refine r_lload (pc := 80) dX12_partWhole_80 4 rfl ?_
      refine r_aload_n (pc := 82) dX12_partWhole_82 rfl 0 rfl ?_
      refine r_getS (pc := 83) dX12_partWhole_83 fgX12_241 rfl g18 ha19 ?_
      refine r_iload (pc := 86) dX12_partWhole_86 5 rfl ?_
      refine r_laload (pc := 88) dX12_partWhole_88 g24 g25 ?_
      refine r_lsub (pc := 89) dX12_partWhole_89 ?_
      refine r_lstore (pc := 90) (L' := [(6, vL (x6 - ((u2 (u2 J a19 (Int32.toNatClampNeg x8) ((x1 * (J a20 (Int32.toNatClampNeg x8))) / x4)) a27 (Int32.toNatClampNeg x8) ((x1 * ((u2 J a19 (Int32.toNatClampNeg x8) ((x1 * (J a20 (Int32.toNatClampNeg x8))) / x4)) a20 (Int32.toNatClampNeg x8))) - (x1 * ((u2 J a19 (Int32.toNatClampNeg x8) ((x1 * (J a20 (Int32.toNatClampNeg x8))) / x4)) a20 (Int32.toNatClampNeg x8))) / x4 * x4)) a19 (Int32.toNatClampNeg x8)))), (0, vR (some t)), (1, vL x1), (3, vI x3), (4, vL x4), (8, vI x8)]) dX12_partWhole_90 (by decide) rfl ?_
      refine r_iinc (pc := 92) (v := (x8 + (1 : Int32))) (L' := [(8, vI (x8 + (1 : Int32))), (6, vL (x6 - ((u2 (u2 J a19 (Int32.toNatClampNeg x8) ((x1 * (J a20 (Int32.toNatClampNeg x8))) / x4)) a27 (Int32.toNatClampNeg x8) ((x1 * ((u2 J a19 (Int32.toNatClampNeg x8) ((x1 * (J a20 (Int32.toNatClampNeg x8))) / x4)) a20 (Int32.toNatClampNeg x8))) - (x1 * ((u2 J a19 (Int32.toNatClampNeg x8) ((x1 * (J a20 (Int32.toNatClampNeg x8))) / x4)) a20 (Int32.toNatClampNeg x8))) / x4 * x4)) a19 (Int32.toNatClampNeg x8)))), (0, vR (some t)), (1, vL x1), (3, vI x3), (4, vL x4)]) dX12_partWhole_92 5 rfl (kc_inc_1 _) (by decide) rfl ?_
      refine r_goto (pc := 95) (tgt := 36) dX12_partWhole_95 rfl ?_
      refine r_sub [2, 3, 4, 5, 1, 0] rfl ?_
      exact ih _ _ _ _ _ _ h
def fX12_partWhole_l6  (σ : Shp) (R : Nat → Nat → Option Nat) (t : Nat) : Nat → (Nat → Nat → Int64) → (Int64) → (Int32) → (Int64) → (Int32) → Option ((Nat → Nat → Int64))
  | 0, _, _, _, _, _ => none
  | n + 1, J, x1, x3, x4, x6 =>
    if x3 ≤ x6 then
      fX12_partWhole_l36 σ R t FUx J x1 x3 x4 x1 (0 : Int32)
    else
      if kdx σ t = 13 then
      ((R t 108) : Option Nat).bind fun a34 =>
      if kdx σ a34 = 21 then
      if ¬ (x6 < 0 ∨ lnx σ a34 ≤ Int32.toNatClampNeg x6) then
      let v37 := (x4 + (J a34 (Int32.toNatClampNeg x6)))
      let v38 := x6 + (1 : Int32)
      fX12_partWhole_l6 σ R t n J x1 x3 v37 v38
      else none
      else none
      else none
theorem wX12_partWhole_l6 {G : Gx} {l : Launch} {σ : Shp} {I : Nat → Nat → Int32} {D : Nat → Nat → UInt64} {R : Nat → Nat → Option Nat} {t : Nat} {J9 : Nat → Nat → Int64} : ∀ (n : Nat) (J : Nat → Nat → Int64) (x1 : Int64) (x3 : Int32) (x4 : Int64) (x6 : Int32), fX12_partWhole_l6 σ R t n J x1 x3 x4 x6 = some J9 → WX12_partWhole G l σ (σ, I, J9, D, R) none (σ, I, J, D, R) 6 [(0, vR (some t)), (1, vL x1), (3, vI x3), (4, vL x4), (6, vI x6)] [] := by
  intro n
  induction n with
  | zero =>
    intro J x1 x3 x4 x6 h
    have h : none = some _ := h
    cases h
  | succ n ih =>
    intro J x1 x3 x4 x6 h
    rw [fX12_partWhole_l6] at h
    refine r_iload (pc := 6) dX12_partWhole_6 4 rfl ?_
    refine r_iload_n (pc := 8) dX12_partWhole_8 rfl 2 rfl ?_
    refine r_icmp_ge (pc := 9) (tgt := 30) dX12_partWhole_9 rfl (fun c => ?_) (fun c => ?_)
    · have h := it h c
      refine r_lload_n (pc := 30) dX12_partWhole_30 rfl 1 rfl ?_
      refine r_lstore (pc := 31) (L' := [(6, vL x1), (0, vR (some t)), (1, vL x1), (3, vI x3), (4, vL x4)]) dX12_partWhole_31 (by decide) rfl ?_
      refine r_iconst (pc := 33) dX12_partWhole_33 kc_iconst_0 ?_
      refine r_istore (pc := 34) (L' := [(8, vI (0 : Int32)), (6, vL x1), (0, vR (some t)), (1, vL x1), (3, vI x3), (4, vL x4)]) dX12_partWhole_34 (by decide) rfl ?_
      refine r_sub [2, 3, 4, 5, 1, 0] rfl ?_
      exact wX12_partWhole_l36 _ _ _ _ _ _ _ h
    · have h := ie h c
      refine r_lload (pc := 12) dX12_partWhole_12 3 rfl ?_
      refine r_aload_n (pc := 14) dX12_partWhole_14 rfl 0 rfl ?_
      obtain ⟨g33, h⟩ := gd h
      obtain ⟨a34, ha34, h⟩ := ob h
      refine r_getS (pc := 15) dX12_partWhole_15 fgX12_247 rfl g33 ha34 ?_
      refine r_iload (pc := 18) dX12_partWhole_18 4 rfl ?_
      obtain ⟨g35, h⟩ := gd h
      obtain ⟨g36, h⟩ := gd h
      refine r_laload (pc := 20) dX12_partWhole_20 g35 g36 ?_
      refine r_ladd (pc := 21) dX12_partWhole_21 ?_
      refine r_lstore (pc := 22) (L' := [(4, vL (x4 + (J a34 (Int32.toNatClampNeg x6)))), (0, vR (some t)), (1, vL x1), (3, vI x3), (6, vI x6)]) dX12_partWhole_22 (by decide) rfl ?_
      refine r_iinc (pc := 24) (v := (x6 + (1 : Int32))) (L' := [(6, vI (x6 + (1 : Int32))), (4, vL (x4 + (J a34 (Int32.toNatClampNeg x6)))), (0, vR (some t)), (1, vL x1), (3, vI x3)]) dX12_partWhole_24 4 rfl (kc_inc_1 _) (by decide) rfl ?_
      refine r_goto (pc := 27) (tgt := 6) dX12_partWhole_27 rfl ?_
      refine r_sub [2, 3, 4, 1, 0] rfl ?_
      exact ih _ _ _ _ _ h
def fX12_partWhole (σ : Shp) (J : Nat → Nat → Int64) (R : Nat → Nat → Option Nat) (t : Nat) (x1 : Int64) (x3 : Int32) : Option ((Nat → Nat → Int64)) :=
  fX12_partWhole_l6 σ R t FUx J x1 x3 (0 : Int64) (0 : Int32)
theorem kX12_partWhole {G : Gx} {l : Launch} {σ : Shp} {I : Nat → Nat → Int32} {J : Nat → Nat → Int64} {D : Nat → Nat → UInt64} {R : Nat → Nat → Option Nat} {t : Nat} {x1 : Int64} {x3 : Int32} {J9 : Nat → Nat → Int64} (h : fX12_partWhole σ J R t x1 x3 = some J9) : Con G l yX12_partWhole cX12_partWhole 10 none 0 0 [vR (some t), vL x1, vI x3] (σ, I, J, D, R) (σ, I, J9, D, R) none := by
  unfold fX12_partWhole at h
  refine Con.mk (by decide +kernel) rfl (Nat.le_of_ble_eq_true rfl) ?_
  show WX12_partWhole G l σ (σ, I, J9, D, R) none (σ, I, J, D, R) 0 _ []
  refine r_lconst (pc := 0) dX12_partWhole_0 kc_lconst_0 ?_
  refine r_lstore (pc := 1) (L' := [(4, vL (0 : Int64)), (0, vR (some t)), (1, vL x1), (3, vI x3)]) dX12_partWhole_1 (by decide) rfl ?_
  refine r_iconst (pc := 3) dX12_partWhole_3 kc_iconst_0 ?_
  refine r_istore (pc := 4) (L' := [(6, vI (0 : Int32)), (4, vL (0 : Int64)), (0, vR (some t)), (1, vL x1), (3, vI x3)]) dX12_partWhole_4 (by decide) rfl ?_
  refine r_sub [2, 3, 4, 1, 0] rfl ?_
  exact wX12_partWhole_l6 _ _ _ _ _ _ h
abbrev WX12_shares (G : Gx) (l : Launch) (σ0 : Shp) (X1 : Stt) (rv : Option SV) : Stt → Nat → List (Nat × SV) → List SV → Prop := Wm G l yX12_shares cX12_shares 10 (some .int) (fun _ => True) (rmx 2 45 σ0 X1.1) σ0 (Qmx G σ0 X1 rv)
def fX12_shares_l207  (σ : Shp) (R : Nat → Nat → Option Nat) (t : Nat) : Nat → (Nat → Nat → Int32) → (Nat → Nat → Int64) → (Int32) → (Int32) → (Int32) → (Int32) → Option ((Nat → Nat → Int32) × (Nat → Nat → Int64) × (Int32))
  | 0, _, _, _, _, _, _ => none
  | n + 1, I, J, x3, x4, x8, x9 =>
    if kdx σ t = 13 then
    ((R t 5) : Option Nat).bind fun a27 =>
    if kdx σ a27 = 22 then
    if ¬ (x4 < 0 ∨ lnx σ a27 ≤ Int32.toNatClampNeg x4) then
    if (I a27 (Int32.toNatClampNeg x4)) ≤ x9 then
      ((R t 3) : Option Nat).bind fun a30 =>
      if kdx σ a30 = 20 then
      if ¬ (x3 < 0 ∨ lnx σ a30 ≤ Int32.toNatClampNeg x3) then
      let I33 := u2 I a30 (Int32.toNatClampNeg x3) x8
      some (I33, J, (1 : Int32))
      else none
      else none
    else
      ((R t 8) : Option Nat).bind fun a34 =>
      ((R t 6) : Option Nat).bind fun a35 =>
      if kdx σ a35 = 20 then
      if ¬ (x8 < 0 ∨ lnx σ a35 ≤ Int32.toNatClampNeg x8) then
      ((R t 106) : Option Nat).bind fun a38 =>
      if kdx σ a38 = 21 then
      if ¬ (x9 < 0 ∨ lnx σ a38 ≤ Int32.toNatClampNeg x9) then
      if kdx σ a34 = 21 then
      if ¬ (((I a35 (Int32.toNatClampNeg x8)) + x9) < 0 ∨ lnx σ a34 ≤ Int32.toNatClampNeg ((I a35 (Int32.toNatClampNeg x8)) + x9)) then
      let J43 := u2 J a34 (Int32.toNatClampNeg ((I a35 (Int32.toNatClampNeg x8)) + x9)) (J a38 (Int32.toNatClampNeg x9))
      let v44 := x9 + (1 : Int32)
      fX12_shares_l207 σ R t n I J43 x3 x4 x8 v44
      else none
      else none
      else none
      else none
      else none
      else none
    else none
    else none
    else none
theorem wX12_shares_l207 {G : Gx} {l : Launch} {σ : Shp} {D : Nat → Nat → UInt64} {R : Nat → Nat → Option Nat} {t : Nat} {I9 : Nat → Nat → Int32} {J9 : Nat → Nat → Int64} {r9 : Int32} : ∀ (n : Nat) (I : Nat → Nat → Int32) (J : Nat → Nat → Int64) (x3 : Int32) (x4 : Int32) (x8 : Int32) (x9 : Int32), fX12_shares_l207 σ R t n I J x3 x4 x8 x9 = some (I9, J9, r9) → WX12_shares G l σ (σ, I9, J9, D, R) (some (vI r9)) (σ, I, J, D, R) 207 [(0, vR (some t)), (3, vI x3), (4, vI x4), (8, vI x8), (9, vI x9)] [] := by
  intro n
  induction n with
  | zero =>
    intro I J x3 x4 x8 x9 h
    have h : none = some _ := h
    cases h
  | succ n ih =>
    intro I J x3 x4 x8 x9 h
    rw [fX12_shares_l207] at h
    refine r_iload (pc := 207) dX12_shares_207 4 rfl ?_
    refine r_aload_n (pc := 209) dX12_shares_209 rfl 0 rfl ?_
    obtain ⟨g26, h⟩ := gd h
    obtain ⟨a27, ha27, h⟩ := ob h
    refine r_getS (pc := 210) dX12_shares_210 fgX12_19 rfl g26 ha27 ?_
    refine r_iload (pc := 213) dX12_shares_213 2 rfl ?_
    obtain ⟨g28, h⟩ := gd h
    obtain ⟨g29, h⟩ := gd h
    refine r_baload (pc := 215) dX12_shares_215 g28 g29 ?_
    refine r_icmp_ge (pc := 216) (tgt := 247) dX12_shares_216 rfl (fun c => ?_) (fun c => ?_)
    · have h := it h c
      refine r_aload_n (pc := 247) dX12_shares_247 rfl 0 rfl ?_
      obtain ⟨a30, ha30, h⟩ := ob h
      refine r_getS (pc := 248) dX12_shares_248 fgX12_9 rfl g26 ha30 ?_
      refine r_iload_n (pc := 251) dX12_shares_251 rfl 1 rfl ?_
      refine r_iload (pc := 252) dX12_shares_252 3 rfl ?_
      obtain ⟨g31, h⟩ := gd h
      obtain ⟨g32, h⟩ := gd h
      refine r_iastore (pc := 254) dX12_shares_254 g31 g32 ?_
      refine r_iconst (pc := 255) dX12_shares_255 kc_iconst_1 ?_
      cases h
      exact r_iret dX12_shares_256
    · have h := ie h c
      refine r_aload_n (pc := 219) dX12_shares_219 rfl 0 rfl ?_
      obtain ⟨a34, ha34, h⟩ := ob h
      refine r_getS (pc := 220) dX12_shares_220 fgX12_26 rfl g26 ha34 ?_
      refine r_aload_n (pc := 223) dX12_shares_223 rfl 0 rfl ?_
      obtain ⟨a35, ha35, h⟩ := ob h
      refine r_getS (pc := 224) dX12_shares_224 fgX12_22 rfl g26 ha35 ?_
      refine r_iload (pc := 227) dX12_shares_227 3 rfl ?_
      obtain ⟨g36, h⟩ := gd h
      obtain ⟨g37, h⟩ := gd h
      refine r_iaload (pc := 229) dX12_shares_229 g36 g37 ?_
      refine r_iload (pc := 230) dX12_shares_230 4 rfl ?_
      refine r_iadd (pc := 232) dX12_shares_232 ?_
      refine r_aload_n (pc := 233) dX12_shares_233 rfl 0 rfl ?_
      obtain ⟨a38, ha38, h⟩ := ob h
      refine r_getS (pc := 234) dX12_shares_234 fgX12_241 rfl g26 ha38 ?_
      refine r_iload (pc := 237) dX12_shares_237 4 rfl ?_
      obtain ⟨g39, h⟩ := gd h
      obtain ⟨g40, h⟩ := gd h
      refine r_laload (pc := 239) dX12_shares_239 g39 g40 ?_
      obtain ⟨g41, h⟩ := gd h
      obtain ⟨g42, h⟩ := gd h
      refine r_lastore (pc := 240) dX12_shares_240 g41 g42 ?_
      refine r_iinc (pc := 241) (v := (x9 + (1 : Int32))) (L' := [(9, vI (x9 + (1 : Int32))), (0, vR (some t)), (3, vI x3), (4, vI x4), (8, vI x8)]) dX12_shares_241 4 rfl (kc_inc_1 _) (by decide) rfl ?_
      refine r_goto (pc := 244) (tgt := 207) dX12_shares_244 rfl ?_
      refine r_sub [1, 2, 3, 4, 0] rfl ?_
      exact ih _ _ _ _ _ _ h
def fX12_shares_l76  (σ : Shp) (R : Nat → Nat → Option Nat) (t : Nat) : Nat → (Nat → Nat → Int32) → (Nat → Nat → Int64) → (Int32) → (Int32) → (Int32) → (Int32) → (Int64) → (Int32) → Option ((Nat → Nat → Int32) × (Nat → Nat → Int64) × (Int32))
  | 0, _, _, _, _, _, _, _, _ => none
  | n + 1, I, J, x2, x3, x4, x5, x6, x8 =>
    if kdx σ t = 13 then
    ((R t 5) : Option Nat).bind fun a16 =>
    if kdx σ a16 = 22 then
    if ¬ (x4 < 0 ∨ lnx σ a16 ≤ Int32.toNatClampNeg x4) then
    if (I a16 (Int32.toNatClampNeg x4)) ≤ x8 then
      if x5 = 0 then
        some (I, J, (-3 : Int32))
      else
        if x6 = (0 : Int64) then
          some (I, J, (-3 : Int32))
        else
          (fX12_isFull σ I t).bind fun r19 =>
          if r19 = 0 then
            (fX12_partWhole σ J R t (Int32.toInt64 x2) (I a16 (Int32.toNatClampNeg x4))).bind fun J21 =>
            (fX12_newRow σ I R t (5 : Int32) (I a16 (Int32.toNatClampNeg x4))).bind fun (I23, r24) =>
            fX12_shares_l207 σ R t FUx I23 J21 x3 x4 r24 (0 : Int32)
          else
            some (I, J, (-4 : Int32))
    else
      ((R t 108) : Option Nat).bind fun a45 =>
      ((R t 8) : Option Nat).bind fun a46 =>
      ((R t 6) : Option Nat).bind fun a47 =>
      if kdx σ a47 = 20 then
      if ¬ (x4 < 0 ∨ lnx σ a47 ≤ Int32.toNatClampNeg x4) then
      if kdx σ a46 = 21 then
      if ¬ (((I a47 (Int32.toNatClampNeg x4)) + x8) < 0 ∨ lnx σ a46 ≤ Int32.toNatClampNeg ((I a47 (Int32.toNatClampNeg x4)) + x8)) then
      if kdx σ a45 = 21 then
      if ¬ (x8 < 0 ∨ lnx σ a45 ≤ Int32.toNatClampNeg x8) then
      let J54 := u2 J a45 (Int32.toNatClampNeg x8) (J a46 (Int32.toNatClampNeg ((I a47 (Int32.toNatClampNeg x4)) + x8)))
      if x5 = 0 then
        let v55 := (x6 + (J54 a45 (Int32.toNatClampNeg x8)))
        let v56 := x8 + (1 : Int32)
        fX12_shares_l76 σ R t n I J54 x2 x3 x4 (0 : Int32) v55 v56
      else
        if (J54 a45 (Int32.toNatClampNeg x8)) < (0 : Int64) then
          let v57 := (x6 + (J54 a45 (Int32.toNatClampNeg x8)))
          let v58 := x8 + (1 : Int32)
          fX12_shares_l76 σ R t n I J54 x2 x3 x4 (0 : Int32) v57 v58
        else
          let v59 := (x6 + (J54 a45 (Int32.toNatClampNeg x8)))
          let v60 := x8 + (1 : Int32)
          fX12_shares_l76 σ R t n I J54 x2 x3 x4 (1 : Int32) v59 v60
      else none
      else none
      else none
      else none
      else none
      else none
    else none
    else none
    else none
theorem wX12_shares_l76 {G : Gx} {l : Launch} {σ : Shp} {D : Nat → Nat → UInt64} {R : Nat → Nat → Option Nat} {t : Nat} {I9 : Nat → Nat → Int32} {J9 : Nat → Nat → Int64} {r9 : Int32} : ∀ (n : Nat) (I : Nat → Nat → Int32) (J : Nat → Nat → Int64) (x2 : Int32) (x3 : Int32) (x4 : Int32) (x5 : Int32) (x6 : Int64) (x8 : Int32), fX12_shares_l76 σ R t n I J x2 x3 x4 x5 x6 x8 = some (I9, J9, r9) → WX12_shares G l σ (σ, I9, J9, D, R) (some (vI r9)) (σ, I, J, D, R) 76 [(0, vR (some t)), (2, vI x2), (3, vI x3), (4, vI x4), (5, vI x5), (6, vL x6), (8, vI x8)] [] := by
  intro n
  induction n with
  | zero =>
    intro I J x2 x3 x4 x5 x6 x8 h
    have h : none = some _ := h
    cases h
  | succ n ih =>
    intro I J x2 x3 x4 x5 x6 x8 h
    rw [fX12_shares_l76] at h
    refine r_iload (pc := 76) dX12_shares_76 6 rfl ?_
    refine r_aload_n (pc := 78) dX12_shares_78 rfl 0 rfl ?_
    obtain ⟨g15, h⟩ := gd h
    obtain ⟨a16, ha16, h⟩ := ob h
    refine r_getS (pc := 79) dX12_shares_79 fgX12_19 rfl g15 ha16 ?_
    refine r_iload (pc := 82) dX12_shares_82 3 rfl ?_
    obtain ⟨g17, h⟩ := gd h
    obtain ⟨g18, h⟩ := gd h
    refine r_baload (pc := 84) dX12_shares_84 g17 g18 ?_
    refine r_icmp_ge (pc := 85) (tgt := 152) dX12_shares_85 rfl (fun c => ?_) (fun c => ?_)
    · have h := it h c
      refine r_iload (pc := 152) dX12_shares_152 4 rfl ?_
      refine r_if_eq (pc := 154) (tgt := 164) dX12_shares_154 rfl (fun c => ?_) (fun c => ?_)
      · have h := it h c
        refine r_bipush (pc := 164) dX12_shares_164 kc_bipush_m3 ?_
        cases h
        exact r_iret dX12_shares_166
      · have h := ie h c
        refine r_lload (pc := 157) dX12_shares_157 5 rfl ?_
        refine r_lconst (pc := 159) dX12_shares_159 kc_lconst_0 ?_
        refine r_lcmp (pc := 160) dX12_shares_160 ?_
        refine r_ifne (pc := 161) (tgt := 167) dX12_shares_161 rfl (fun c => ?_) (fun c => ?_)
        · have h := ie h (fun q => c (lgc_eq.mpr q))
          refine r_aload_n (pc := 167) dX12_shares_167 rfl 0 rfl ?_
          obtain ⟨r19, hc20, h⟩ := ob h
          refine r_callV1 (pc := 168) (av := []) (S := []) dX12_shares_168 (kX12_isFull hc20) g15 rfl mkX12_349 mwX12_isFull rfl ⟨Nat.le_of_ble_eq_true rfl, Nat.le_of_ble_eq_true rfl⟩ (Nat.le_of_ble_eq_true rfl) ⟨Nat.le_refl _, Nat.le_refl _⟩ (fun b => b) ?_
          refine r_if_eq (pc := 171) (tgt := 177) dX12_shares_171 rfl (fun c => ?_) (fun c => ?_)
          · have h := it h c
            refine r_aload_n (pc := 177) dX12_shares_177 rfl 0 rfl ?_
            refine r_iload_n (pc := 178) dX12_shares_178 rfl 1 rfl ?_
            refine r_i2l (pc := 179) dX12_shares_179 ?_
            refine r_aload_n (pc := 180) dX12_shares_180 rfl 0 rfl ?_
            refine r_getS (pc := 181) dX12_shares_181 fgX12_19 rfl g15 ha16 ?_
            refine r_iload (pc := 184) dX12_shares_184 3 rfl ?_
            refine r_baload (pc := 186) dX12_shares_186 g17 g18 ?_
            obtain ⟨J21, hc22, h⟩ := ob h
            refine r_callV0 (pc := 187) (av := [vL (Int32.toInt64 x2), vI (I a16 (Int32.toNatClampNeg x4))]) (S := []) dX12_shares_187 (kX12_partWhole hc22) g15 rfl mkX12_703 mwX12_partWhole rfl ⟨Nat.le_of_ble_eq_true rfl, Nat.le_of_ble_eq_true rfl⟩ (Nat.le_of_ble_eq_true rfl) ⟨Nat.le_refl _, Nat.le_refl _⟩ (fun b => b) ?_
            refine r_aload_n (pc := 190) dX12_shares_190 rfl 0 rfl ?_
            refine r_iconst (pc := 191) dX12_shares_191 kc_iconst_5 ?_
            refine r_aload_n (pc := 192) dX12_shares_192 rfl 0 rfl ?_
            refine r_getS (pc := 193) dX12_shares_193 fgX12_19 rfl g15 ha16 ?_
            refine r_iload (pc := 196) dX12_shares_196 3 rfl ?_
            refine r_baload (pc := 198) dX12_shares_198 g17 g18 ?_
            obtain ⟨⟨I23, r24⟩, hc25, h⟩ := ob h
            refine r_callV1 (pc := 199) (av := [vI (5 : Int32), vI (I a16 (Int32.toNatClampNeg x4))]) (S := []) dX12_shares_199 (kX12_newRow hc25) g15 rfl mkX12_353 mwX12_newRow rfl ⟨Nat.le_of_ble_eq_true rfl, Nat.le_of_ble_eq_true rfl⟩ (Nat.le_of_ble_eq_true rfl) ⟨Nat.le_refl _, Nat.le_refl _⟩ (fun b => b) ?_
            refine r_istore (pc := 202) (L' := [(8, vI r24), (0, vR (some t)), (2, vI x2), (3, vI x3), (4, vI x4), (5, vI x5), (6, vL x6)]) dX12_shares_202 (by decide) rfl ?_
            refine r_iconst (pc := 204) dX12_shares_204 kc_iconst_0 ?_
            refine r_istore (pc := 205) (L' := [(9, vI (0 : Int32)), (8, vI r24), (0, vR (some t)), (2, vI x2), (3, vI x3), (4, vI x4), (5, vI x5), (6, vL x6)]) dX12_shares_205 (by decide) rfl ?_
            refine r_sub [2, 4, 5, 1, 0] rfl ?_
            exact wX12_shares_l207 _ _ _ _ _ _ _ h
          · have h := ie h c
            refine r_bipush (pc := 174) dX12_shares_174 kc_bipush_m4 ?_
            cases h
            exact r_iret dX12_shares_176
        · have h := it h (lgc_eq.mp c)
          refine r_bipush (pc := 164) dX12_shares_164 kc_bipush_m3 ?_
          cases h
          exact r_iret dX12_shares_166
    · have h := ie h c
      refine r_aload_n (pc := 88) dX12_shares_88 rfl 0 rfl ?_
      obtain ⟨a45, ha45, h⟩ := ob h
      refine r_getS (pc := 89) dX12_shares_89 fgX12_247 rfl g15 ha45 ?_
      refine r_iload (pc := 92) dX12_shares_92 6 rfl ?_
      refine r_aload_n (pc := 94) dX12_shares_94 rfl 0 rfl ?_
      obtain ⟨a46, ha46, h⟩ := ob h
      refine r_getS (pc := 95) dX12_shares_95 fgX12_26 rfl g15 ha46 ?_
      refine r_aload_n (pc := 98) dX12_shares_98 rfl 0 rfl ?_
      obtain ⟨a47, ha47, h⟩ := ob h
      refine r_getS (pc := 99) dX12_shares_99 fgX12_22 rfl g15 ha47 ?_
      refine r_iload (pc := 102) dX12_shares_102 3 rfl ?_
      obtain ⟨g48, h⟩ := gd h
      obtain ⟨g49, h⟩ := gd h
      refine r_iaload (pc := 104) dX12_shares_104 g48 g49 ?_
      refine r_iload (pc := 105) dX12_shares_105 6 rfl ?_
      refine r_iadd (pc := 107) dX12_shares_107 ?_
      obtain ⟨g50, h⟩ := gd h
      obtain ⟨g51, h⟩ := gd h
      refine r_laload (pc := 108) dX12_shares_108 g50 g51 ?_
      obtain ⟨g52, h⟩ := gd h
      obtain ⟨g53, h⟩ := gd h
      refine r_lastore (pc := 109) dX12_shares_109 g52 g53 ?_
      refine r_iload (pc := 110) dX12_shares_110 4 rfl ?_
      refine r_if_eq (pc := 112) (tgt := 131) dX12_shares_112 rfl (fun c => ?_) (fun c => ?_)
      · have h := it h c
        refine r_iconst (pc := 131) dX12_shares_131 kc_iconst_0 ?_
        refine r_istore (pc := 132) (L' := [(5, vI (0 : Int32)), (0, vR (some t)), (2, vI x2), (3, vI x3), (4, vI x4), (6, vL x6), (8, vI x8)]) dX12_shares_132 (by decide) rfl ?_
        refine r_lload (pc := 134) dX12_shares_134 5 rfl ?_
        refine r_aload_n (pc := 136) dX12_shares_136 rfl 1 rfl ?_
        refine r_getS (pc := 137) dX12_shares_137 fgX12_247 rfl g15 ha45 ?_
        refine r_iload (pc := 140) dX12_shares_140 6 rfl ?_
        refine r_laload (pc := 142) dX12_shares_142 g52 g53 ?_
        refine r_ladd (pc := 143) dX12_shares_143 ?_
        refine r_lstore (pc := 144) (L' := [(6, vL (x6 + ((u2 J a45 (Int32.toNatClampNeg x8) (J a46 (Int32.toNatClampNeg ((I a47 (Int32.toNatClampNeg x4)) + x8)))) a45 (Int32.toNatClampNeg x8)))), (5, vI (0 : Int32)), (0, vR (some t)), (2, vI x2), (3, vI x3), (4, vI x4), (8, vI x8)]) dX12_shares_144 (by decide) rfl ?_
        refine r_iinc (pc := 146) (v := (x8 + (1 : Int32))) (L' := [(8, vI (x8 + (1 : Int32))), (6, vL (x6 + ((u2 J a45 (Int32.toNatClampNeg x8) (J a46 (Int32.toNatClampNeg ((I a47 (Int32.toNatClampNeg x4)) + x8)))) a45 (Int32.toNatClampNeg x8)))), (5, vI (0 : Int32)), (0, vR (some t)), (2, vI x2), (3, vI x3), (4, vI x4)]) dX12_shares_146 6 rfl (kc_inc_1 _) (by decide) rfl ?_
        refine r_goto (pc := 149) (tgt := 76) dX12_shares_149 rfl ?_
        refine r_sub [3, 4, 5, 6, 2, 1, 0] rfl ?_
        exact ih _ _ _ _ _ _ _ _ h
      · have h := ie h c
        refine r_aload_n (pc := 115) dX12_shares_115 rfl 0 rfl ?_
        refine r_getS (pc := 116) dX12_shares_116 fgX12_247 rfl g15 ha45 ?_
        refine r_iload (pc := 119) dX12_shares_119 6 rfl ?_
        refine r_laload (pc := 121) dX12_shares_121 g52 g53 ?_
        refine r_lconst (pc := 122) dX12_shares_122 kc_lconst_0 ?_
        refine r_lcmp (pc := 123) dX12_shares_123 ?_
        refine r_if_lt (pc := 124) (tgt := 131) dX12_shares_124 rfl (fun c => ?_) (fun c => ?_)
        · have h := it h (lgc_lt.mp c)
          refine r_iconst (pc := 131) dX12_shares_131 kc_iconst_0 ?_
          refine r_istore (pc := 132) (L' := [(5, vI (0 : Int32)), (0, vR (some t)), (2, vI x2), (3, vI x3), (4, vI x4), (6, vL x6), (8, vI x8)]) dX12_shares_132 (by decide) rfl ?_
          refine r_lload (pc := 134) dX12_shares_134 5 rfl ?_
          refine r_aload_n (pc := 136) dX12_shares_136 rfl 1 rfl ?_
          refine r_getS (pc := 137) dX12_shares_137 fgX12_247 rfl g15 ha45 ?_
          refine r_iload (pc := 140) dX12_shares_140 6 rfl ?_
          refine r_laload (pc := 142) dX12_shares_142 g52 g53 ?_
          refine r_ladd (pc := 143) dX12_shares_143 ?_
          refine r_lstore (pc := 144) (L' := [(6, vL (x6 + ((u2 J a45 (Int32.toNatClampNeg x8) (J a46 (Int32.toNatClampNeg ((I a47 (Int32.toNatClampNeg x4)) + x8)))) a45 (Int32.toNatClampNeg x8)))), (5, vI (0 : Int32)), (0, vR (some t)), (2, vI x2), (3, vI x3), (4, vI x4), (8, vI x8)]) dX12_shares_144 (by decide) rfl ?_
          refine r_iinc (pc := 146) (v := (x8 + (1 : Int32))) (L' := [(8, vI (x8 + (1 : Int32))), (6, vL (x6 + ((u2 J a45 (Int32.toNatClampNeg x8) (J a46 (Int32.toNatClampNeg ((I a47 (Int32.toNatClampNeg x4)) + x8)))) a45 (Int32.toNatClampNeg x8)))), (5, vI (0 : Int32)), (0, vR (some t)), (2, vI x2), (3, vI x3), (4, vI x4)]) dX12_shares_146 6 rfl (kc_inc_1 _) (by decide) rfl ?_
          refine r_goto (pc := 149) (tgt := 76) dX12_shares_149 rfl ?_
          refine r_sub [3, 4, 5, 6, 2, 1, 0] rfl ?_
          exact ih _ _ _ _ _ _ _ _ h
        · have h := ie h (fun q => c (lgc_lt.mpr q))
          refine r_iconst (pc := 127) dX12_shares_127 kc_iconst_1 ?_
          refine r_goto (pc := 128) (tgt := 132) dX12_shares_128 rfl ?_
          refine r_istore (pc := 132) (L' := [(5, vI (1 : Int32)), (0, vR (some t)), (2, vI x2), (3, vI x3), (4, vI x4), (6, vL x6), (8, vI x8)]) dX12_shares_132 (by decide) rfl ?_
          refine r_lload (pc := 134) dX12_shares_134 5 rfl ?_
          refine r_aload_n (pc := 136) dX12_shares_136 rfl 1 rfl ?_
          refine r_getS (pc := 137) dX12_shares_137 fgX12_247 rfl g15 ha45 ?_
          refine r_iload (pc := 140) dX12_shares_140 6 rfl ?_
          refine r_laload (pc := 142) dX12_shares_142 g52 g53 ?_
          refine r_ladd (pc := 143) dX12_shares_143 ?_
          refine r_lstore (pc := 144) (L' := [(6, vL (x6 + ((u2 J a45 (Int32.toNatClampNeg x8) (J a46 (Int32.toNatClampNeg ((I a47 (Int32.toNatClampNeg x4)) + x8)))) a45 (Int32.toNatClampNeg x8)))), (5, vI (1 : Int32)), (0, vR (some t)), (2, vI x2), (3, vI x3), (4, vI x4), (8, vI x8)]) dX12_shares_144 (by decide) rfl ?_
          refine r_iinc (pc := 146) (v := (x8 + (1 : Int32))) (L' := [(8, vI (x8 + (1 : Int32))), (6, vL (x6 + ((u2 J a45 (Int32.toNatClampNeg x8) (J a46 (Int32.toNatClampNeg ((I a47 (Int32.toNatClampNeg x4)) + x8)))) a45 (Int32.toNatClampNeg x8)))), (5, vI (1 : Int32)), (0, vR (some t)), (2, vI x2), (3, vI x3), (4, vI x4)]) dX12_shares_146 6 rfl (kc_inc_1 _) (by decide) rfl ?_
          refine r_goto (pc := 149) (tgt := 76) dX12_shares_149 rfl ?_
          refine r_sub [3, 4, 5, 6, 2, 1, 0] rfl ?_
          exact ih _ _ _ _ _ _ _ _ h
def fX12_shares (σ : Shp) (I : Nat → Nat → Int32) (J : Nat → Nat → Int64) (R : Nat → Nat → Option Nat) (t : Nat) (x1 : Int32) (x2 : Int32) (x3 : Int32) : Option ((Nat → Nat → Int32) × (Nat → Nat → Int64) × (Int32)) :=
  if (fX12_isBin x1) = 0 then
    some (I, J, (-2 : Int32))
  else
    if (fX12_isBin x3) = 0 then
      some (I, J, (-2 : Int32))
    else
      if (fX12_in x2 (0 : Int32) (1000000000 : Int32)) = 0 then
        some (I, J, (-2 : Int32))
      else
        if kdx σ t = 13 then
        ((R t 3) : Option Nat).bind fun a2 =>
        if kdx σ a2 = 20 then
        if ¬ (x1 < 0 ∨ lnx σ a2 ≤ Int32.toNatClampNeg x1) then
        let v5 := (I a2 (Int32.toNatClampNeg x1))
        if v5 = 0 then
          if v5 = 0 then
            (fX12_no σ I t (1 : Int32)).bind fun (I9, r10) =>
            some (I9, J, r10)
          else
            (fX12_no σ I t (4 : Int32)).bind fun (I6, r7) =>
            some (I6, J, r7)
        else
          ((R t 4) : Option Nat).bind fun a12 =>
          if kdx σ a12 = 22 then
          if ¬ (v5 < 0 ∨ lnx σ a12 ≤ Int32.toNatClampNeg v5) then
          if (I a12 (Int32.toNatClampNeg v5)) = (4 : Int32) then
            fX12_shares_l76 σ R t FUx I J x2 x3 v5 (1 : Int32) (0 : Int64) (0 : Int32)
          else
            if v5 = 0 then
              (fX12_no σ I t (1 : Int32)).bind fun (I64, r65) =>
              some (I64, J, r65)
            else
              (fX12_no σ I t (4 : Int32)).bind fun (I61, r62) =>
              some (I61, J, r62)
          else none
          else none
        else none
        else none
        else none
theorem kX12_shares {G : Gx} {l : Launch} {σ : Shp} {I : Nat → Nat → Int32} {J : Nat → Nat → Int64} {D : Nat → Nat → UInt64} {R : Nat → Nat → Option Nat} {t : Nat} {x1 : Int32} {x2 : Int32} {x3 : Int32} {I9 : Nat → Nat → Int32} {J9 : Nat → Nat → Int64} {r9 : Int32} (h : fX12_shares σ I J R t x1 x2 x3 = some (I9, J9, r9)) : Con G l yX12_shares cX12_shares 10 (some .int) 2 45 [vR (some t), vI x1, vI x2, vI x3] (σ, I, J, D, R) (σ, I9, J9, D, R) (some (vI r9)) := by
  unfold fX12_shares at h
  refine Con.mk (by decide +kernel) rfl (Nat.le_of_ble_eq_true rfl) ?_
  show WX12_shares G l σ (σ, I9, J9, D, R) (some (vI r9)) (σ, I, J, D, R) 0 _ []
  refine r_iload_n (pc := 0) dX12_shares_0 rfl 1 rfl ?_
  refine r_callS1 (pc := 1) (av := [vI x1]) (S := []) dX12_shares_1 (kX12_isBin rfl) mkX12_345 mwX12_isBin rfl ⟨Nat.le_of_ble_eq_true rfl, Nat.le_of_ble_eq_true rfl⟩ (Nat.le_of_ble_eq_true rfl) ⟨Nat.le_refl _, Nat.le_refl _⟩ (fun b => b) ?_
  refine r_if_eq (pc := 4) (tgt := 25) dX12_shares_4 rfl (fun c => ?_) (fun c => ?_)
  · have h := it h c
    refine r_bipush (pc := 25) dX12_shares_25 kc_bipush_m2 ?_
    cases h
    exact r_iret dX12_shares_27
  · have h := ie h c
    refine r_iload_n (pc := 7) dX12_shares_7 rfl 3 rfl ?_
    refine r_callS1 (pc := 8) (av := [vI x3]) (S := []) dX12_shares_8 (kX12_isBin rfl) mkX12_345 mwX12_isBin rfl ⟨Nat.le_of_ble_eq_true rfl, Nat.le_of_ble_eq_true rfl⟩ (Nat.le_of_ble_eq_true rfl) ⟨Nat.le_refl _, Nat.le_refl _⟩ (fun b => b) ?_
    refine r_if_eq (pc := 11) (tgt := 25) dX12_shares_11 rfl (fun c => ?_) (fun c => ?_)
    · have h := it h c
      refine r_bipush (pc := 25) dX12_shares_25 kc_bipush_m2 ?_
      cases h
      exact r_iret dX12_shares_27
    · have h := ie h c
      refine r_iload_n (pc := 14) dX12_shares_14 rfl 2 rfl ?_
      refine r_iconst (pc := 15) dX12_shares_15 kc_iconst_0 ?_
      refine r_ldcw (pc := 16) dX12_shares_16 ciX12_702 ?_
      refine r_callS1 (pc := 19) (av := [vI x2, vI (0 : Int32), vI (1000000000 : Int32)]) (S := []) dX12_shares_19 (kX12_in rfl) mkX12_322 mwX12_in rfl ⟨Nat.le_of_ble_eq_true rfl, Nat.le_of_ble_eq_true rfl⟩ (Nat.le_of_ble_eq_true rfl) ⟨Nat.le_refl _, Nat.le_refl _⟩ (fun b => b) ?_
      refine r_ifne (pc := 22) (tgt := 28) dX12_shares_22 rfl (fun c => ?_) (fun c => ?_)
      · have h := ie h c
        refine r_aload_n (pc := 28) dX12_shares_28 rfl 0 rfl ?_
        obtain ⟨g1, h⟩ := gd h
        obtain ⟨a2, ha2, h⟩ := ob h
        refine r_getS (pc := 29) dX12_shares_29 fgX12_9 rfl g1 ha2 ?_
        refine r_iload_n (pc := 32) dX12_shares_32 rfl 1 rfl ?_
        obtain ⟨g3, h⟩ := gd h
        obtain ⟨g4, h⟩ := gd h
        refine r_iaload (pc := 33) dX12_shares_33 g3 g4 ?_
        refine r_istore (pc := 34) (L' := [(4, vI (I a2 (Int32.toNatClampNeg x1))), (0, vR (some t)), (1, vI x1), (2, vI x2), (3, vI x3)]) dX12_shares_34 (by decide) rfl ?_
        refine r_iload (pc := 36) dX12_shares_36 0 rfl ?_
        refine r_if_eq (pc := 38) (tgt := 52) dX12_shares_38 rfl (fun c => ?_) (fun c => ?_)
        · have h := it h c
          refine r_aload_n (pc := 52) dX12_shares_52 rfl 1 rfl ?_
          refine r_iload (pc := 53) dX12_shares_53 0 rfl ?_
          refine r_ifne (pc := 55) (tgt := 62) dX12_shares_55 rfl (fun c => ?_) (fun c => ?_)
          · have h := ie h c
            refine r_iconst (pc := 62) dX12_shares_62 kc_iconst_4 ?_
            obtain ⟨⟨I6, r7⟩, hc8, h⟩ := ob h
            refine r_callV1 (pc := 63) (av := [vI (4 : Int32)]) (S := []) dX12_shares_63 (kX12_no hc8) g1 rfl mkX12_308 mwX12_no rfl ⟨Nat.le_of_ble_eq_true rfl, Nat.le_of_ble_eq_true rfl⟩ (Nat.le_of_ble_eq_true rfl) ⟨Nat.le_refl _, Nat.le_refl _⟩ (fun b => b) ?_
            cases h
            exact r_iret dX12_shares_66
          · have h := it h c
            refine r_iconst (pc := 58) dX12_shares_58 kc_iconst_1 ?_
            refine r_goto (pc := 59) (tgt := 63) dX12_shares_59 rfl ?_
            obtain ⟨⟨I9, r10⟩, hc11, h⟩ := ob h
            refine r_callV1 (pc := 63) (av := [vI (1 : Int32)]) (S := []) dX12_shares_63 (kX12_no hc11) g1 rfl mkX12_308 mwX12_no rfl ⟨Nat.le_of_ble_eq_true rfl, Nat.le_of_ble_eq_true rfl⟩ (Nat.le_of_ble_eq_true rfl) ⟨Nat.le_refl _, Nat.le_refl _⟩ (fun b => b) ?_
            cases h
            exact r_iret dX12_shares_66
        · have h := ie h c
          refine r_aload_n (pc := 41) dX12_shares_41 rfl 1 rfl ?_
          obtain ⟨a12, ha12, h⟩ := ob h
          refine r_getS (pc := 42) dX12_shares_42 fgX12_15 rfl g1 ha12 ?_
          refine r_iload (pc := 45) dX12_shares_45 0 rfl ?_
          obtain ⟨g13, h⟩ := gd h
          obtain ⟨g14, h⟩ := gd h
          refine r_baload (pc := 47) dX12_shares_47 g13 g14 ?_
          refine r_iconst (pc := 48) dX12_shares_48 kc_iconst_4 ?_
          refine r_icmp_eq (pc := 49) (tgt := 67) dX12_shares_49 rfl (fun c => ?_) (fun c => ?_)
          · have h := it h c
            refine r_iconst (pc := 67) dX12_shares_67 kc_iconst_1 ?_
            refine r_istore (pc := 68) (L' := [(5, vI (1 : Int32)), (4, vI (I a2 (Int32.toNatClampNeg x1))), (0, vR (some t)), (1, vI x1), (2, vI x2), (3, vI x3)]) dX12_shares_68 (by decide) rfl ?_
            refine r_lconst (pc := 70) dX12_shares_70 kc_lconst_0 ?_
            refine r_lstore (pc := 71) (L' := [(6, vL (0 : Int64)), (5, vI (1 : Int32)), (4, vI (I a2 (Int32.toNatClampNeg x1))), (0, vR (some t)), (1, vI x1), (2, vI x2), (3, vI x3)]) dX12_shares_71 (by decide) rfl ?_
            refine r_iconst (pc := 73) dX12_shares_73 kc_iconst_0 ?_
            refine r_istore (pc := 74) (L' := [(8, vI (0 : Int32)), (6, vL (0 : Int64)), (5, vI (1 : Int32)), (4, vI (I a2 (Int32.toNatClampNeg x1))), (0, vR (some t)), (1, vI x1), (2, vI x2), (3, vI x3)]) dX12_shares_74 (by decide) rfl ?_
            refine r_sub [4, 6, 7, 3, 2, 1, 0] rfl ?_
            exact wX12_shares_l76 _ _ _ _ _ _ _ _ _ h
          · have h := ie h c
            refine r_aload_n (pc := 52) dX12_shares_52 rfl 1 rfl ?_
            refine r_iload (pc := 53) dX12_shares_53 0 rfl ?_
            refine r_ifne (pc := 55) (tgt := 62) dX12_shares_55 rfl (fun c => ?_) (fun c => ?_)
            · have h := ie h c
              refine r_iconst (pc := 62) dX12_shares_62 kc_iconst_4 ?_
              obtain ⟨⟨I61, r62⟩, hc63, h⟩ := ob h
              refine r_callV1 (pc := 63) (av := [vI (4 : Int32)]) (S := []) dX12_shares_63 (kX12_no hc63) g1 rfl mkX12_308 mwX12_no rfl ⟨Nat.le_of_ble_eq_true rfl, Nat.le_of_ble_eq_true rfl⟩ (Nat.le_of_ble_eq_true rfl) ⟨Nat.le_refl _, Nat.le_refl _⟩ (fun b => b) ?_
              cases h
              exact r_iret dX12_shares_66
            · have h := it h c
              refine r_iconst (pc := 58) dX12_shares_58 kc_iconst_1 ?_
              refine r_goto (pc := 59) (tgt := 63) dX12_shares_59 rfl ?_
              obtain ⟨⟨I64, r65⟩, hc66, h⟩ := ob h
              refine r_callV1 (pc := 63) (av := [vI (1 : Int32)]) (S := []) dX12_shares_63 (kX12_no hc66) g1 rfl mkX12_308 mwX12_no rfl ⟨Nat.le_of_ble_eq_true rfl, Nat.le_of_ble_eq_true rfl⟩ (Nat.le_of_ble_eq_true rfl) ⟨Nat.le_refl _, Nat.le_refl _⟩ (fun b => b) ?_
              cases h
              exact r_iret dX12_shares_66
      · have h := it h c
        refine r_bipush (pc := 25) dX12_shares_25 kc_bipush_m2 ?_
        cases h
        exact r_iret dX12_shares_27
abbrev WX12_quotient (G : Gx) (l : Launch) (σ0 : Shp) (X1 : Stt) (rv : Option SV) : Stt → Nat → List (Nat × SV) → List SV → Prop := Wm G l yX12_quotient cX12_quotient 9 (some .long) (fun _ => True) (rmx 2 43 σ0 X1.1) σ0 (Qmx G σ0 X1 rv)
def fX12_quotient (σ : Shp) (I : Nat → Nat → Int32) (t : Nat) (x1 : Int32) (x2 : Int64) (x4 : Int64) (x6 : Int32) : Option ((Nat → Nat → Int32) × (Int64)) :=
  if (fX12_in x1 (4 : Int32) (5 : Int32)) = 0 then
    some (I, (0 : Int64))
  else
    if (fX12_in x6 (0 : Int32) (1 : Int32)) = 0 then
      some (I, (0 : Int64))
    else
      if x1 = (4 : Int32) then
        let v7 := (Int64.toInt32 x2)
        let v8 := (Int64.toInt32 x4)
        if v8 = 0 then
          if kdx σ t = 13 then
          (fX12_noBits σ I t (6 : Int32)).bind fun (I12, r13) =>
          some (I12, r13)
          else none
        else
          if x6 = 0 then
            if ¬ v8 = 0 then
            some (I, (Int32.toInt64 (v7 / v8)))
            else none
          else
            if ¬ v8 = 0 then
            some (I, (Int32.toInt64 (v7 - v7 / v8 * v8)))
            else none
      else
        if x4 = (0 : Int64) then
          if kdx σ t = 13 then
          (fX12_noBits σ I t (6 : Int32)).bind fun (I4, r5) =>
          some (I4, r5)
          else none
        else
          if x6 = 0 then
            if ¬ x4 = 0 then
            some (I, (x2 / x4))
            else none
          else
            if ¬ x4 = 0 then
            some (I, (x2 - x2 / x4 * x4))
            else none
theorem kX12_quotient {G : Gx} {l : Launch} {σ : Shp} {I : Nat → Nat → Int32} {J : Nat → Nat → Int64} {D : Nat → Nat → UInt64} {R : Nat → Nat → Option Nat} {t : Nat} {x1 : Int32} {x2 : Int64} {x4 : Int64} {x6 : Int32} {I9 : Nat → Nat → Int32} {r9 : Int64} (h : fX12_quotient σ I t x1 x2 x4 x6 = some (I9, r9)) : Con G l yX12_quotient cX12_quotient 9 (some .long) 2 43 [vR (some t), vI x1, vL x2, vL x4, vI x6] (σ, I, J, D, R) (σ, I9, J, D, R) (some (vL r9)) := by
  unfold fX12_quotient at h
  refine Con.mk (by decide +kernel) rfl (Nat.le_of_ble_eq_true rfl) ?_
  show WX12_quotient G l σ (σ, I9, J, D, R) (some (vL r9)) (σ, I, J, D, R) 0 _ []
  refine r_iload_n (pc := 0) dX12_quotient_0 rfl 1 rfl ?_
  refine r_iconst (pc := 1) dX12_quotient_1 kc_iconst_4 ?_
  refine r_iconst (pc := 2) dX12_quotient_2 kc_iconst_5 ?_
  refine r_callS1 (pc := 3) (av := [vI x1, vI (4 : Int32), vI (5 : Int32)]) (S := []) dX12_quotient_3 (kX12_in rfl) mkX12_322 mwX12_in rfl ⟨Nat.le_of_ble_eq_true rfl, Nat.le_of_ble_eq_true rfl⟩ (Nat.le_of_ble_eq_true rfl) ⟨Nat.le_refl _, Nat.le_refl _⟩ (fun b => b) ?_
  refine r_if_eq (pc := 6) (tgt := 19) dX12_quotient_6 rfl (fun c => ?_) (fun c => ?_)
  · have h := it h c
    refine r_lconst (pc := 19) dX12_quotient_19 kc_lconst_0 ?_
    cases h
    exact r_lret dX12_quotient_20
  · have h := ie h c
    refine r_iload (pc := 9) dX12_quotient_9 4 rfl ?_
    refine r_iconst (pc := 11) dX12_quotient_11 kc_iconst_0 ?_
    refine r_iconst (pc := 12) dX12_quotient_12 kc_iconst_1 ?_
    refine r_callS1 (pc := 13) (av := [vI x6, vI (0 : Int32), vI (1 : Int32)]) (S := []) dX12_quotient_13 (kX12_in rfl) mkX12_322 mwX12_in rfl ⟨Nat.le_of_ble_eq_true rfl, Nat.le_of_ble_eq_true rfl⟩ (Nat.le_of_ble_eq_true rfl) ⟨Nat.le_refl _, Nat.le_refl _⟩ (fun b => b) ?_
    refine r_ifne (pc := 16) (tgt := 21) dX12_quotient_16 rfl (fun c => ?_) (fun c => ?_)
    · have h := ie h c
      refine r_iload_n (pc := 21) dX12_quotient_21 rfl 1 rfl ?_
      refine r_iconst (pc := 22) dX12_quotient_22 kc_iconst_4 ?_
      refine r_icmp_ne (pc := 23) (tgt := 70) dX12_quotient_23 rfl (fun c => ?_) (fun c => ?_)
      · have h := ie h c
        refine r_lload (pc := 70) dX12_quotient_70 3 rfl ?_
        refine r_lconst (pc := 72) dX12_quotient_72 kc_lconst_0 ?_
        refine r_lcmp (pc := 73) dX12_quotient_73 ?_
        refine r_ifne (pc := 74) (tgt := 86) dX12_quotient_74 rfl (fun c => ?_) (fun c => ?_)
        · have h := ie h (fun q => c (lgc_eq.mpr q))
          refine r_iload (pc := 86) dX12_quotient_86 4 rfl ?_
          refine r_ifne (pc := 88) (tgt := 98) dX12_quotient_88 rfl (fun c => ?_) (fun c => ?_)
          · have h := ie h c
            refine r_lload_n (pc := 98) dX12_quotient_98 rfl 2 rfl ?_
            refine r_lload (pc := 99) dX12_quotient_99 3 rfl ?_
            obtain ⟨g1, h⟩ := gd h
            refine r_lrem (pc := 101) dX12_quotient_101 g1 ?_
            cases h
            exact r_lret dX12_quotient_102
          · have h := it h c
            refine r_lload_n (pc := 91) dX12_quotient_91 rfl 2 rfl ?_
            refine r_lload (pc := 92) dX12_quotient_92 3 rfl ?_
            obtain ⟨g2, h⟩ := gd h
            refine r_ldiv (pc := 94) dX12_quotient_94 g2 ?_
            refine r_goto (pc := 95) (tgt := 102) dX12_quotient_95 rfl ?_
            cases h
            exact r_lret dX12_quotient_102
        · have h := it h (lgc_eq.mp c)
          refine r_aload_n (pc := 77) dX12_quotient_77 rfl 0 rfl ?_
          refine r_bipush (pc := 78) dX12_quotient_78 kc_bipush_6 ?_
          obtain ⟨g3, h⟩ := gd h
          obtain ⟨⟨I4, r5⟩, hc6, h⟩ := ob h
          refine r_callV1 (pc := 80) (av := [vI (6 : Int32)]) (S := []) dX12_quotient_80 (kX12_noBits hc6) g3 rfl mkX12_373 mwX12_noBits rfl ⟨Nat.le_of_ble_eq_true rfl, Nat.le_of_ble_eq_true rfl⟩ (Nat.le_of_ble_eq_true rfl) ⟨Nat.le_refl _, Nat.le_refl _⟩ (fun b => b) ?_
          refine r_goto (pc := 83) (tgt := 102) dX12_quotient_83 rfl ?_
          cases h
          exact r_lret dX12_quotient_102
      · have h := it h c
        refine r_lload_n (pc := 26) dX12_quotient_26 rfl 2 rfl ?_
        refine r_l2i (pc := 27) dX12_quotient_27 ?_
        refine r_istore (pc := 28) (L' := [(7, vI (Int64.toInt32 x2)), (0, vR (some t)), (1, vI x1), (2, vL x2), (4, vL x4), (6, vI x6)]) dX12_quotient_28 (by decide) rfl ?_
        refine r_lload (pc := 30) dX12_quotient_30 4 rfl ?_
        refine r_l2i (pc := 32) dX12_quotient_32 ?_
        refine r_istore (pc := 33) (L' := [(8, vI (Int64.toInt32 x4)), (7, vI (Int64.toInt32 x2)), (0, vR (some t)), (1, vI x1), (2, vL x2), (4, vL x4), (6, vI x6)]) dX12_quotient_33 (by decide) rfl ?_
        refine r_iload (pc := 35) dX12_quotient_35 0 rfl ?_
        refine r_ifne (pc := 37) (tgt := 49) dX12_quotient_37 rfl (fun c => ?_) (fun c => ?_)
        · have h := ie h c
          refine r_iload (pc := 49) dX12_quotient_49 6 rfl ?_
          refine r_ifne (pc := 51) (tgt := 63) dX12_quotient_51 rfl (fun c => ?_) (fun c => ?_)
          · have h := ie h c
            refine r_iload (pc := 63) dX12_quotient_63 1 rfl ?_
            refine r_iload (pc := 65) dX12_quotient_65 0 rfl ?_
            obtain ⟨g9, h⟩ := gd h
            refine r_irem (pc := 67) dX12_quotient_67 g9 ?_
            refine r_i2l (pc := 68) dX12_quotient_68 ?_
            cases h
            exact r_lret dX12_quotient_69
          · have h := it h c
            refine r_iload (pc := 54) dX12_quotient_54 1 rfl ?_
            refine r_iload (pc := 56) dX12_quotient_56 0 rfl ?_
            obtain ⟨g10, h⟩ := gd h
            refine r_idiv (pc := 58) dX12_quotient_58 g10 ?_
            refine r_i2l (pc := 59) dX12_quotient_59 ?_
            refine r_goto (pc := 60) (tgt := 69) dX12_quotient_60 rfl ?_
            cases h
            exact r_lret dX12_quotient_69
        · have h := it h c
          refine r_aload_n (pc := 40) dX12_quotient_40 rfl 2 rfl ?_
          refine r_bipush (pc := 41) dX12_quotient_41 kc_bipush_6 ?_
          obtain ⟨g11, h⟩ := gd h
          obtain ⟨⟨I12, r13⟩, hc14, h⟩ := ob h
          refine r_callV1 (pc := 43) (av := [vI (6 : Int32)]) (S := []) dX12_quotient_43 (kX12_noBits hc14) g11 rfl mkX12_373 mwX12_noBits rfl ⟨Nat.le_of_ble_eq_true rfl, Nat.le_of_ble_eq_true rfl⟩ (Nat.le_of_ble_eq_true rfl) ⟨Nat.le_refl _, Nat.le_refl _⟩ (fun b => b) ?_
          refine r_goto (pc := 46) (tgt := 69) dX12_quotient_46 rfl ?_
          cases h
          exact r_lret dX12_quotient_69
    · have h := it h c
      refine r_lconst (pc := 19) dX12_quotient_19 kc_lconst_0 ?_
      cases h
      exact r_lret dX12_quotient_20
abbrev WX12_fromSingle (G : Gx) (l : Launch) (σ0 : Shp) (X1 : Stt) (rv : Option SV) : Stt → Nat → List (Nat × SV) → List SV → Prop := Wm G l yX12_fromSingle cX12_fromSingle 6 (some .double) (fun _ => True) (rmx 2 49 σ0 X1.1) σ0 (Qmx G σ0 X1 rv)
def fX12_fromSingle  (x0 : Int32) : Option ((UInt64)) :=
  let v1 := ((x0 >>> ((23 : Int32) &&& 31)) &&& (255 : Int32))
  let v2 := ((Int32.toInt64 x0) &&& (8388607 : Int64))
  if v1 = (255 : Int32) then
    if v2 = (0 : Int64) then
      (fX12_great).bind fun r7 =>
      if 0 ≤ x0 then
        some r7
      else
        some (FP.dneg r7)
    else
      some (9221120237041090560 : UInt64)
  else
    if v1 = 0 then
      (fX12_scaled v2 (-149 : Int32)).bind fun r5 =>
      if 0 ≤ x0 then
        some r5
      else
        some (FP.dneg r5)
    else
      (fX12_scaled (v2 ||| (8388608 : Int64)) (v1 - (150 : Int32))).bind fun r3 =>
      if 0 ≤ x0 then
        some r3
      else
        some (FP.dneg r3)
theorem kX12_fromSingle {G : Gx} {l : Launch} {σ : Shp} {I : Nat → Nat → Int32} {J : Nat → Nat → Int64} {D : Nat → Nat → UInt64} {R : Nat → Nat → Option Nat} {x0 : Int32} {r9 : UInt64} (h : fX12_fromSingle x0 = some r9) : Con G l yX12_fromSingle cX12_fromSingle 6 (some .double) 2 49 [vI x0] (σ, I, J, D, R) (σ, I, J, D, R) (some (vD r9)) := by
  unfold fX12_fromSingle at h
  refine Con.mk (by decide +kernel) rfl (Nat.le_of_ble_eq_true rfl) ?_
  show WX12_fromSingle G l σ (σ, I, J, D, R) (some (vD r9)) (σ, I, J, D, R) 0 _ []
  refine r_iload_n (pc := 0) dX12_fromSingle_0 rfl 0 rfl ?_
  refine r_bipush (pc := 1) dX12_fromSingle_1 kc_bipush_23 ?_
  refine r_ishr (pc := 3) dX12_fromSingle_3 ?_
  refine r_sipush (pc := 4) dX12_fromSingle_4 kc_sipush_255 ?_
  refine r_iand (pc := 7) dX12_fromSingle_7 ?_
  refine r_istore_n (pc := 8) (L' := [(1, vI ((x0 >>> ((23 : Int32) &&& 31)) &&& (255 : Int32))), (0, vI x0)]) dX12_fromSingle_8 rfl (by decide) rfl ?_
  refine r_iload_n (pc := 9) dX12_fromSingle_9 rfl 1 rfl ?_
  refine r_i2l (pc := 10) dX12_fromSingle_10 ?_
  refine r_ldc2 (pc := 11) dX12_fromSingle_11 clX12_854 ?_
  refine r_land (pc := 14) dX12_fromSingle_14 ?_
  refine r_lstore_n (pc := 15) (L' := [(2, vL ((Int32.toInt64 x0) &&& (8388607 : Int64))), (1, vI ((x0 >>> ((23 : Int32) &&& 31)) &&& (255 : Int32))), (0, vI x0)]) dX12_fromSingle_15 rfl (by decide) rfl ?_
  refine r_iload_n (pc := 16) dX12_fromSingle_16 rfl 1 rfl ?_
  refine r_sipush (pc := 17) dX12_fromSingle_17 kc_sipush_255 ?_
  refine r_icmp_ne (pc := 20) (tgt := 41) dX12_fromSingle_20 rfl (fun c => ?_) (fun c => ?_)
  · have h := ie h c
    refine r_iload_n (pc := 41) dX12_fromSingle_41 rfl 1 rfl ?_
    refine r_ifne (pc := 42) (tgt := 55) dX12_fromSingle_42 rfl (fun c => ?_) (fun c => ?_)
    · have h := ie h c
      refine r_lload_n (pc := 55) dX12_fromSingle_55 rfl 0 rfl ?_
      refine r_ldc2 (pc := 56) dX12_fromSingle_56 clX12_856 ?_
      refine r_lor (pc := 59) dX12_fromSingle_59 ?_
      refine r_iload_n (pc := 60) dX12_fromSingle_60 rfl 1 rfl ?_
      refine r_sipush (pc := 61) dX12_fromSingle_61 kc_sipush_150 ?_
      refine r_isub (pc := 64) dX12_fromSingle_64 ?_
      obtain ⟨r3, hc4, h⟩ := ob h
      refine r_callS1 (pc := 65) (av := [vL (((Int32.toInt64 x0) &&& (8388607 : Int64)) ||| (8388608 : Int64)), vI (((x0 >>> ((23 : Int32) &&& 31)) &&& (255 : Int32)) - (150 : Int32))]) (S := []) dX12_fromSingle_65 (kX12_scaled hc4) mkX12_848 mwX12_scaled rfl ⟨Nat.le_of_ble_eq_true rfl, Nat.le_of_ble_eq_true rfl⟩ (Nat.le_of_ble_eq_true rfl) ⟨Nat.le_refl _, Nat.le_refl _⟩ (fun b => b) ?_
      refine r_dstore (pc := 68) (L' := [(4, vD r3), (2, vL ((Int32.toInt64 x0) &&& (8388607 : Int64))), (1, vI ((x0 >>> ((23 : Int32) &&& 31)) &&& (255 : Int32))), (0, vI x0)]) dX12_fromSingle_68 (by decide) rfl ?_
      refine r_iload_n (pc := 70) dX12_fromSingle_70 rfl 3 rfl ?_
      refine r_ifge (pc := 71) (tgt := 80) dX12_fromSingle_71 rfl (fun c => ?_) (fun c => ?_)
      · have h := it h c
        refine r_dload (pc := 80) dX12_fromSingle_80 0 rfl ?_
        cases h
        exact r_dret dX12_fromSingle_82
      · have h := ie h c
        refine r_dload (pc := 74) dX12_fromSingle_74 0 rfl ?_
        refine r_dneg (pc := 76) dX12_fromSingle_76 ?_
        refine r_goto (pc := 77) (tgt := 82) dX12_fromSingle_77 rfl ?_
        cases h
        exact r_dret dX12_fromSingle_82
    · have h := it h c
      refine r_lload_n (pc := 45) dX12_fromSingle_45 rfl 0 rfl ?_
      refine r_sipush (pc := 46) dX12_fromSingle_46 kc_sipush_m149 ?_
      obtain ⟨r5, hc6, h⟩ := ob h
      refine r_callS1 (pc := 49) (av := [vL ((Int32.toInt64 x0) &&& (8388607 : Int64)), vI (-149 : Int32)]) (S := []) dX12_fromSingle_49 (kX12_scaled hc6) mkX12_848 mwX12_scaled rfl ⟨Nat.le_of_ble_eq_true rfl, Nat.le_of_ble_eq_true rfl⟩ (Nat.le_of_ble_eq_true rfl) ⟨Nat.le_refl _, Nat.le_refl _⟩ (fun b => b) ?_
      refine r_goto (pc := 52) (tgt := 68) dX12_fromSingle_52 rfl ?_
      refine r_dstore (pc := 68) (L' := [(4, vD r5), (2, vL ((Int32.toInt64 x0) &&& (8388607 : Int64))), (1, vI ((x0 >>> ((23 : Int32) &&& 31)) &&& (255 : Int32))), (0, vI x0)]) dX12_fromSingle_68 (by decide) rfl ?_
      refine r_iload_n (pc := 70) dX12_fromSingle_70 rfl 3 rfl ?_
      refine r_ifge (pc := 71) (tgt := 80) dX12_fromSingle_71 rfl (fun c => ?_) (fun c => ?_)
      · have h := it h c
        refine r_dload (pc := 80) dX12_fromSingle_80 0 rfl ?_
        cases h
        exact r_dret dX12_fromSingle_82
      · have h := ie h c
        refine r_dload (pc := 74) dX12_fromSingle_74 0 rfl ?_
        refine r_dneg (pc := 76) dX12_fromSingle_76 ?_
        refine r_goto (pc := 77) (tgt := 82) dX12_fromSingle_77 rfl ?_
        cases h
        exact r_dret dX12_fromSingle_82
  · have h := it h c
    refine r_lload_n (pc := 23) dX12_fromSingle_23 rfl 0 rfl ?_
    refine r_lconst (pc := 24) dX12_fromSingle_24 kc_lconst_0 ?_
    refine r_lcmp (pc := 25) dX12_fromSingle_25 ?_
    refine r_if_eq (pc := 26) (tgt := 33) dX12_fromSingle_26 rfl (fun c => ?_) (fun c => ?_)
    · have h := it h (lgc_eq.mp c)
      obtain ⟨r7, hc8, h⟩ := ob h
      refine r_callS1 (pc := 33) (av := []) (S := []) dX12_fromSingle_33 (kX12_great hc8) mkX12_844 mwX12_great rfl ⟨Nat.le_of_ble_eq_true rfl, Nat.le_of_ble_eq_true rfl⟩ (Nat.le_of_ble_eq_true rfl) ⟨Nat.le_refl _, Nat.le_refl _⟩ (fun b => b) ?_
      refine r_dstore (pc := 36) (L' := [(4, vD r7), (2, vL ((Int32.toInt64 x0) &&& (8388607 : Int64))), (1, vI ((x0 >>> ((23 : Int32) &&& 31)) &&& (255 : Int32))), (0, vI x0)]) dX12_fromSingle_36 (by decide) rfl ?_
      refine r_goto (pc := 38) (tgt := 70) dX12_fromSingle_38 rfl ?_
      refine r_iload_n (pc := 70) dX12_fromSingle_70 rfl 3 rfl ?_
      refine r_ifge (pc := 71) (tgt := 80) dX12_fromSingle_71 rfl (fun c => ?_) (fun c => ?_)
      · have h := it h c
        refine r_dload (pc := 80) dX12_fromSingle_80 0 rfl ?_
        cases h
        exact r_dret dX12_fromSingle_82
      · have h := ie h c
        refine r_dload (pc := 74) dX12_fromSingle_74 0 rfl ?_
        refine r_dneg (pc := 76) dX12_fromSingle_76 ?_
        refine r_goto (pc := 77) (tgt := 82) dX12_fromSingle_77 rfl ?_
        cases h
        exact r_dret dX12_fromSingle_82
    · have h := ie h (fun q => c (lgc_eq.mpr q))
      refine r_ldc2d (pc := 29) dX12_fromSingle_29 cdX12_838 ?_
      cases h
      exact r_dret dX12_fromSingle_32
abbrev WX12_realOf (G : Gx) (l : Launch) (σ0 : Shp) (X1 : Stt) (rv : Option SV) : Stt → Nat → List (Nat × SV) → List SV → Prop := Wm G l yX12_realOf cX12_realOf 3 (some .double) (fun _ => True) (rmx 3 75 σ0 X1.1) σ0 (Qmx G σ0 X1 rv)
def fX12_realOf  (x0 : Int32) (x1 : Int64) : Option ((UInt64)) :=
  if x0 = (6 : Int32) then
    (fX12_fromSingle (Int64.toInt32 x1)).bind fun r3 =>
    some r3
  else
    (fX12_fromBits x1).bind fun r1 =>
    some r1
theorem kX12_realOf {G : Gx} {l : Launch} {σ : Shp} {I : Nat → Nat → Int32} {J : Nat → Nat → Int64} {D : Nat → Nat → UInt64} {R : Nat → Nat → Option Nat} {x0 : Int32} {x1 : Int64} {r9 : UInt64} (h : fX12_realOf x0 x1 = some r9) : Con G l yX12_realOf cX12_realOf 3 (some .double) 3 75 [vI x0, vL x1] (σ, I, J, D, R) (σ, I, J, D, R) (some (vD r9)) := by
  unfold fX12_realOf at h
  refine Con.mk (by decide +kernel) rfl (Nat.le_of_ble_eq_true rfl) ?_
  show WX12_realOf G l σ (σ, I, J, D, R) (some (vD r9)) (σ, I, J, D, R) 0 _ []
  refine r_iload_n (pc := 0) dX12_realOf_0 rfl 0 rfl ?_
  refine r_bipush (pc := 1) dX12_realOf_1 kc_bipush_6 ?_
  refine r_icmp_ne (pc := 3) (tgt := 14) dX12_realOf_3 rfl (fun c => ?_) (fun c => ?_)
  · have h := ie h c
    refine r_lload_n (pc := 14) dX12_realOf_14 rfl 1 rfl ?_
    obtain ⟨r1, hc2, h⟩ := ob h
    refine r_callS1 (pc := 15) (av := [vL x1]) (S := []) dX12_realOf_15 (kX12_fromBits hc2) mkX12_630 mwX12_fromBits rfl ⟨Nat.le_of_ble_eq_true rfl, Nat.le_of_ble_eq_true rfl⟩ (Nat.le_of_ble_eq_true rfl) ⟨Nat.le_refl _, Nat.le_refl _⟩ (fun b => b) ?_
    cases h
    exact r_dret dX12_realOf_18
  · have h := it h c
    refine r_lload_n (pc := 6) dX12_realOf_6 rfl 1 rfl ?_
    refine r_l2i (pc := 7) dX12_realOf_7 ?_
    obtain ⟨r3, hc4, h⟩ := ob h
    refine r_callS1 (pc := 8) (av := [vI (Int64.toInt32 x1)]) (S := []) dX12_realOf_8 (kX12_fromSingle hc4) mkX12_707 mwX12_fromSingle rfl ⟨Nat.le_of_ble_eq_true rfl, Nat.le_of_ble_eq_true rfl⟩ (Nat.le_of_ble_eq_true rfl) ⟨Nat.le_refl _, Nat.le_refl _⟩ (fun b => b) ?_
    refine r_goto (pc := 11) (tgt := 18) dX12_realOf_11 rfl ?_
    cases h
    exact r_dret dX12_realOf_18
abbrev WX12_compare (G : Gx) (l : Launch) (σ0 : Shp) (X1 : Stt) (rv : Option SV) : Stt → Nat → List (Nat × SV) → List SV → Prop := Wm G l yX12_compare cX12_compare 13 (some .int) (fun _ => True) (rmx 4 97 σ0 X1.1) σ0 (Qmx G σ0 X1 rv)
def fX12_compare_b97  (σ : Shp) (J : Nat → Nat → Int64) (R : Nat → Nat → Option Nat) (t : Nat) (I : Nat → Nat → Int32) (x1 : Int32) (x3 : Int32) (x5 : Int32) (x6 : Int32) (x7 : Int32) (s0 : Int32) : Option ((Nat → Nat → Int32) × (Int32)) :=
  if s0 = 0 then
    if kdx σ t = 13 then
    ((R t 8) : Option Nat).bind fun a11 =>
    ((R t 6) : Option Nat).bind fun a12 =>
    if kdx σ a12 = 20 then
    if ¬ (x6 < 0 ∨ lnx σ a12 ≤ Int32.toNatClampNeg x6) then
    if kdx σ a11 = 21 then
    if ¬ (((I a12 (Int32.toNatClampNeg x6)) + x3) < 0 ∨ lnx σ a11 ≤ Int32.toNatClampNeg ((I a12 (Int32.toNatClampNeg x6)) + x3)) then
    (fX12_realOf x1 (J a11 (Int32.toNatClampNeg ((I a12 (Int32.toNatClampNeg x6)) + x3)))).bind fun r17 =>
    if ¬ (x7 < 0 ∨ lnx σ a12 ≤ Int32.toNatClampNeg x7) then
    if ¬ (((I a12 (Int32.toNatClampNeg x7)) + x5) < 0 ∨ lnx σ a11 ≤ Int32.toNatClampNeg ((I a12 (Int32.toNatClampNeg x7)) + x5)) then
    (fX12_realOf x1 (J a11 (Int32.toNatClampNeg ((I a12 (Int32.toNatClampNeg x7)) + x5)))).bind fun r21 =>
    if 0 ≤ (Op.cmpValue (FP.dcmp r17 r21) .g) then
      if (Op.cmpValue (FP.dcmp r17 r21) .l) ≤ 0 then
        if (Op.cmpValue (FP.dcmp r17 r21) .l) = 0 then
          some (I, (26 : Int32))
        else
          some (I, (32 : Int32))
      else
        some (I, (44 : Int32))
    else
      some (I, (35 : Int32))
    else none
    else none
    else none
    else none
    else none
    else none
    else none
  else
    if kdx σ t = 13 then
    (fX12_no σ I t s0).bind fun (I24, r25) =>
    some (I24, r25)
    else none
theorem wX12_compare_b97 {G : Gx} {l : Launch} {σ : Shp} {I : Nat → Nat → Int32} {J : Nat → Nat → Int64} {D : Nat → Nat → UInt64} {R : Nat → Nat → Option Nat} {t : Nat} {I9 : Nat → Nat → Int32} {r9 : Int32} {x1 : Int32} {x3 : Int32} {x5 : Int32} {x6 : Int32} {x7 : Int32} {s0 : Int32} (h : fX12_compare_b97 σ J R t I x1 x3 x5 x6 x7 s0 = some (I9, r9)) : WX12_compare G l σ (σ, I9, J, D, R) (some (vI r9)) (σ, I, J, D, R) 97 [(0, vR (some t)), (1, vI x1), (3, vI x3), (5, vI x5), (6, vI x6), (7, vI x7)] [vI s0] := by
  unfold fX12_compare_b97 at h
  refine r_istore (pc := 97) (L' := [(8, vI s0), (0, vR (some t)), (1, vI x1), (3, vI x3), (5, vI x5), (6, vI x6), (7, vI x7)]) dX12_compare_97 (by decide) rfl ?_
  refine r_iload (pc := 99) dX12_compare_99 0 rfl ?_
  refine r_if_eq (pc := 101) (tgt := 111) dX12_compare_101 rfl (fun c => ?_) (fun c => ?_)
  · have h := it h c
    refine r_iload_n (pc := 111) dX12_compare_111 rfl 2 rfl ?_
    refine r_aload_n (pc := 112) dX12_compare_112 rfl 1 rfl ?_
    obtain ⟨g10, h⟩ := gd h
    obtain ⟨a11, ha11, h⟩ := ob h
    refine r_getS (pc := 113) dX12_compare_113 fgX12_26 rfl g10 ha11 ?_
    refine r_aload_n (pc := 116) dX12_compare_116 rfl 1 rfl ?_
    obtain ⟨a12, ha12, h⟩ := ob h
    refine r_getS (pc := 117) dX12_compare_117 fgX12_22 rfl g10 ha12 ?_
    refine r_iload (pc := 120) dX12_compare_120 5 rfl ?_
    obtain ⟨g13, h⟩ := gd h
    obtain ⟨g14, h⟩ := gd h
    refine r_iaload (pc := 122) dX12_compare_122 g13 g14 ?_
    refine r_iload_n (pc := 123) dX12_compare_123 rfl 3 rfl ?_
    refine r_iadd (pc := 124) dX12_compare_124 ?_
    obtain ⟨g15, h⟩ := gd h
    obtain ⟨g16, h⟩ := gd h
    refine r_laload (pc := 125) dX12_compare_125 g15 g16 ?_
    obtain ⟨r17, hc18, h⟩ := ob h
    refine r_callS1 (pc := 126) (av := [vI x1, vL (J a11 (Int32.toNatClampNeg ((I a12 (Int32.toNatClampNeg x6)) + x3)))]) (S := []) dX12_compare_126 (kX12_realOf hc18) mkX12_711 mwX12_realOf rfl ⟨Nat.le_of_ble_eq_true rfl, Nat.le_of_ble_eq_true rfl⟩ (Nat.le_of_ble_eq_true rfl) ⟨Nat.le_refl _, Nat.le_refl _⟩ (fun b => b) ?_
    refine r_dstore (pc := 129) (L' := [(9, vD r17), (8, vI s0), (0, vR (some t)), (1, vI x1), (3, vI x3), (5, vI x5), (6, vI x6), (7, vI x7)]) dX12_compare_129 (by decide) rfl ?_
    refine r_iload_n (pc := 131) dX12_compare_131 rfl 3 rfl ?_
    refine r_aload_n (pc := 132) dX12_compare_132 rfl 2 rfl ?_
    refine r_getS (pc := 133) dX12_compare_133 fgX12_26 rfl g10 ha11 ?_
    refine r_aload_n (pc := 136) dX12_compare_136 rfl 2 rfl ?_
    refine r_getS (pc := 137) dX12_compare_137 fgX12_22 rfl g10 ha12 ?_
    refine r_iload (pc := 140) dX12_compare_140 7 rfl ?_
    obtain ⟨g19, h⟩ := gd h
    refine r_iaload (pc := 142) dX12_compare_142 g13 g19 ?_
    refine r_iload (pc := 143) dX12_compare_143 5 rfl ?_
    refine r_iadd (pc := 145) dX12_compare_145 ?_
    obtain ⟨g20, h⟩ := gd h
    refine r_laload (pc := 146) dX12_compare_146 g15 g20 ?_
    obtain ⟨r21, hc22, h⟩ := ob h
    refine r_callS1 (pc := 147) (av := [vI x1, vL (J a11 (Int32.toNatClampNeg ((I a12 (Int32.toNatClampNeg x7)) + x5)))]) (S := []) dX12_compare_147 (kX12_realOf hc22) mkX12_711 mwX12_realOf rfl ⟨Nat.le_of_ble_eq_true rfl, Nat.le_of_ble_eq_true rfl⟩ (Nat.le_of_ble_eq_true rfl) ⟨Nat.le_refl _, Nat.le_refl _⟩ (fun b => b) ?_
    refine r_dstore (pc := 150) (L' := [(11, vD r21), (9, vD r17), (8, vI s0), (0, vR (some t)), (1, vI x1), (3, vI x3), (5, vI x5), (6, vI x6), (7, vI x7)]) dX12_compare_150 (by decide) rfl ?_
    refine r_dload (pc := 152) dX12_compare_152 1 rfl ?_
    refine r_dload (pc := 154) dX12_compare_154 0 rfl ?_
    refine r_dcmp (pc := 156) dX12_compare_156 ?_
    refine r_ifge (pc := 157) (tgt := 165) dX12_compare_157 rfl (fun c => ?_) (fun c => ?_)
    · have h := it h c
      refine r_dload (pc := 165) dX12_compare_165 1 rfl ?_
      refine r_dload (pc := 167) dX12_compare_167 0 rfl ?_
      refine r_dcmp (pc := 169) dX12_compare_169 ?_
      refine r_if_le (pc := 170) (tgt := 178) dX12_compare_170 rfl (fun c => ?_) (fun c => ?_)
      · have h := it h c
        refine r_dload (pc := 178) dX12_compare_178 1 rfl ?_
        refine r_dload (pc := 180) dX12_compare_180 0 rfl ?_
        refine r_dcmp (pc := 182) dX12_compare_182 ?_
        refine r_ifne (pc := 183) (tgt := 191) dX12_compare_183 rfl (fun c => ?_) (fun c => ?_)
        · have h := ie h c
          refine r_bipush (pc := 191) dX12_compare_191 kc_bipush_32 ?_
          cases h
          exact r_iret dX12_compare_193
        · have h := it h c
          refine r_bipush (pc := 186) dX12_compare_186 kc_bipush_26 ?_
          refine r_goto (pc := 188) (tgt := 193) dX12_compare_188 rfl ?_
          cases h
          exact r_iret dX12_compare_193
      · have h := ie h c
        refine r_bipush (pc := 173) dX12_compare_173 kc_bipush_44 ?_
        refine r_goto (pc := 175) (tgt := 193) dX12_compare_175 rfl ?_
        cases h
        exact r_iret dX12_compare_193
    · have h := ie h c
      refine r_bipush (pc := 160) dX12_compare_160 kc_bipush_35 ?_
      refine r_goto (pc := 162) (tgt := 193) dX12_compare_162 rfl ?_
      cases h
      exact r_iret dX12_compare_193
  · have h := ie h c
    refine r_aload_n (pc := 104) dX12_compare_104 rfl 1 rfl ?_
    refine r_iload (pc := 105) dX12_compare_105 0 rfl ?_
    obtain ⟨g23, h⟩ := gd h
    obtain ⟨⟨I24, r25⟩, hc26, h⟩ := ob h
    refine r_callV1 (pc := 107) (av := [vI s0]) (S := []) dX12_compare_107 (kX12_no hc26) g23 rfl mkX12_308 mwX12_no rfl ⟨Nat.le_of_ble_eq_true rfl, Nat.le_of_ble_eq_true rfl⟩ (Nat.le_of_ble_eq_true rfl) ⟨Nat.le_refl _, Nat.le_refl _⟩ (fun b => b) ?_
    cases h
    exact r_iret dX12_compare_110
def fX12_compare (σ : Shp) (I : Nat → Nat → Int32) (J : Nat → Nat → Int64) (R : Nat → Nat → Option Nat) (t : Nat) (x1 : Int32) (x2 : Int32) (x3 : Int32) (x4 : Int32) (x5 : Int32) : Option ((Nat → Nat → Int32) × (Int32)) :=
  if (fX12_in x1 (6 : Int32) (7 : Int32)) = 0 then
    some (I, (-2 : Int32))
  else
    if (fX12_isBin x2) = 0 then
      some (I, (-2 : Int32))
    else
      if (fX12_isBin x4) = 0 then
        some (I, (-2 : Int32))
      else
        if kdx σ t = 13 then
        ((R t 3) : Option Nat).bind fun a2 =>
        if kdx σ a2 = 20 then
        if ¬ (x2 < 0 ∨ lnx σ a2 ≤ Int32.toNatClampNeg x2) then
        let v5 := (I a2 (Int32.toNatClampNeg x2))
        if ¬ (x4 < 0 ∨ lnx σ a2 ≤ Int32.toNatClampNeg x4) then
        let v7 := (I a2 (Int32.toNatClampNeg x4))
        (fX12_isOf σ I R t v5 x1).bind fun r8 =>
        if r8 = 0 then
          if (4 : Int32) = 0 then
            (fX12_looked σ I R t v7 x5).bind fun r27 =>
            fX12_compare_b97 σ J R t I x1 x3 x5 v5 v7 r27
          else
            fX12_compare_b97 σ J R t I x1 x3 x5 v5 v7 (4 : Int32)
        else
          (fX12_isOf σ I R t v7 x1).bind fun r29 =>
          if r29 = 0 then
            if (4 : Int32) = 0 then
              (fX12_looked σ I R t v7 x5).bind fun r31 =>
              fX12_compare_b97 σ J R t I x1 x3 x5 v5 v7 r31
            else
              fX12_compare_b97 σ J R t I x1 x3 x5 v5 v7 (4 : Int32)
          else
            (fX12_looked σ I R t v5 x3).bind fun r33 =>
            if r33 = 0 then
              (fX12_looked σ I R t v7 x5).bind fun r35 =>
              fX12_compare_b97 σ J R t I x1 x3 x5 v5 v7 r35
            else
              fX12_compare_b97 σ J R t I x1 x3 x5 v5 v7 r33
        else none
        else none
        else none
        else none
theorem kX12_compare {G : Gx} {l : Launch} {σ : Shp} {I : Nat → Nat → Int32} {J : Nat → Nat → Int64} {D : Nat → Nat → UInt64} {R : Nat → Nat → Option Nat} {t : Nat} {x1 : Int32} {x2 : Int32} {x3 : Int32} {x4 : Int32} {x5 : Int32} {I9 : Nat → Nat → Int32} {r9 : Int32} (h : fX12_compare σ I J R t x1 x2 x3 x4 x5 = some (I9, r9)) : Con G l yX12_compare cX12_compare 13 (some .int) 4 97 [vR (some t), vI x1, vI x2, vI x3, vI x4, vI x5] (σ, I, J, D, R) (σ, I9, J, D, R) (some (vI r9)) := by
  unfold fX12_compare at h
  refine Con.mk (by decide +kernel) rfl (Nat.le_of_ble_eq_true rfl) ?_
  show WX12_compare G l σ (σ, I9, J, D, R) (some (vI r9)) (σ, I, J, D, R) 0 _ []
  refine r_iload_n (pc := 0) dX12_compare_0 rfl 1 rfl ?_
  refine r_bipush (pc := 1) dX12_compare_1 kc_bipush_6 ?_
  refine r_bipush (pc := 3) dX12_compare_3 kc_bipush_7 ?_
  refine r_callS1 (pc := 5) (av := [vI x1, vI (6 : Int32), vI (7 : Int32)]) (S := []) dX12_compare_5 (kX12_in rfl) mkX12_322 mwX12_in rfl ⟨Nat.le_of_ble_eq_true rfl, Nat.le_of_ble_eq_true rfl⟩ (Nat.le_of_ble_eq_true rfl) ⟨Nat.le_refl _, Nat.le_refl _⟩ (fun b => b) ?_
  refine r_if_eq (pc := 8) (tgt := 26) dX12_compare_8 rfl (fun c => ?_) (fun c => ?_)
  · have h := it h c
    refine r_bipush (pc := 26) dX12_compare_26 kc_bipush_m2 ?_
    cases h
    exact r_iret dX12_compare_28
  · have h := ie h c
    refine r_iload_n (pc := 11) dX12_compare_11 rfl 2 rfl ?_
    refine r_callS1 (pc := 12) (av := [vI x2]) (S := []) dX12_compare_12 (kX12_isBin rfl) mkX12_345 mwX12_isBin rfl ⟨Nat.le_of_ble_eq_true rfl, Nat.le_of_ble_eq_true rfl⟩ (Nat.le_of_ble_eq_true rfl) ⟨Nat.le_refl _, Nat.le_refl _⟩ (fun b => b) ?_
    refine r_if_eq (pc := 15) (tgt := 26) dX12_compare_15 rfl (fun c => ?_) (fun c => ?_)
    · have h := it h c
      refine r_bipush (pc := 26) dX12_compare_26 kc_bipush_m2 ?_
      cases h
      exact r_iret dX12_compare_28
    · have h := ie h c
      refine r_iload (pc := 18) dX12_compare_18 4 rfl ?_
      refine r_callS1 (pc := 20) (av := [vI x4]) (S := []) dX12_compare_20 (kX12_isBin rfl) mkX12_345 mwX12_isBin rfl ⟨Nat.le_of_ble_eq_true rfl, Nat.le_of_ble_eq_true rfl⟩ (Nat.le_of_ble_eq_true rfl) ⟨Nat.le_refl _, Nat.le_refl _⟩ (fun b => b) ?_
      refine r_ifne (pc := 23) (tgt := 29) dX12_compare_23 rfl (fun c => ?_) (fun c => ?_)
      · have h := ie h c
        refine r_aload_n (pc := 29) dX12_compare_29 rfl 0 rfl ?_
        obtain ⟨g1, h⟩ := gd h
        obtain ⟨a2, ha2, h⟩ := ob h
        refine r_getS (pc := 30) dX12_compare_30 fgX12_9 rfl g1 ha2 ?_
        refine r_iload_n (pc := 33) dX12_compare_33 rfl 2 rfl ?_
        obtain ⟨g3, h⟩ := gd h
        obtain ⟨g4, h⟩ := gd h
        refine r_iaload (pc := 34) dX12_compare_34 g3 g4 ?_
        refine r_istore (pc := 35) (L' := [(6, vI (I a2 (Int32.toNatClampNeg x2))), (0, vR (some t)), (1, vI x1), (2, vI x2), (3, vI x3), (4, vI x4), (5, vI x5)]) dX12_compare_35 (by decide) rfl ?_
        refine r_aload_n (pc := 37) dX12_compare_37 rfl 1 rfl ?_
        refine r_getS (pc := 38) dX12_compare_38 fgX12_9 rfl g1 ha2 ?_
        refine r_iload (pc := 41) dX12_compare_41 5 rfl ?_
        obtain ⟨g6, h⟩ := gd h
        refine r_iaload (pc := 43) dX12_compare_43 g3 g6 ?_
        refine r_istore (pc := 44) (L' := [(7, vI (I a2 (Int32.toNatClampNeg x4))), (6, vI (I a2 (Int32.toNatClampNeg x2))), (0, vR (some t)), (1, vI x1), (2, vI x2), (3, vI x3), (4, vI x4), (5, vI x5)]) dX12_compare_44 (by decide) rfl ?_
        refine r_aload_n (pc := 46) dX12_compare_46 rfl 2 rfl ?_
        refine r_iload (pc := 47) dX12_compare_47 1 rfl ?_
        refine r_iload_n (pc := 49) dX12_compare_49 rfl 3 rfl ?_
        obtain ⟨r8, hc9, h⟩ := ob h
        refine r_callV1 (pc := 50) (av := [vI (I a2 (Int32.toNatClampNeg x2)), vI x1]) (S := []) dX12_compare_50 (kX12_isOf hc9) g1 rfl mkX12_363 mwX12_isOf rfl ⟨Nat.le_of_ble_eq_true rfl, Nat.le_of_ble_eq_true rfl⟩ (Nat.le_of_ble_eq_true rfl) ⟨Nat.le_refl _, Nat.le_refl _⟩ (fun b => b) ?_
        refine r_if_eq (pc := 53) (tgt := 76) dX12_compare_53 rfl (fun c => ?_) (fun c => ?_)
        · have h := it h c
          refine r_iconst (pc := 76) dX12_compare_76 kc_iconst_4 ?_
          refine r_istore (pc := 77) (L' := [(8, vI (4 : Int32)), (7, vI (I a2 (Int32.toNatClampNeg x4))), (6, vI (I a2 (Int32.toNatClampNeg x2))), (0, vR (some t)), (1, vI x1), (2, vI x2), (3, vI x3), (4, vI x4), (5, vI x5)]) dX12_compare_77 (by decide) rfl ?_
          refine r_iload (pc := 79) dX12_compare_79 0 rfl ?_
          refine r_ifne (pc := 81) (tgt := 95) dX12_compare_81 rfl (fun c => ?_) (fun c => ?_)
          · have h := ie h c
            refine r_iload (pc := 95) dX12_compare_95 0 rfl ?_
            refine r_sub [3, 4, 6, 8, 2, 1] rfl ?_
            exact wX12_compare_b97 h
          · have h := it h c
            refine r_aload_n (pc := 84) dX12_compare_84 rfl 3 rfl ?_
            refine r_iload (pc := 85) dX12_compare_85 1 rfl ?_
            refine r_iload (pc := 87) dX12_compare_87 8 rfl ?_
            obtain ⟨r27, hc28, h⟩ := ob h
            refine r_callV1 (pc := 89) (av := [vI (I a2 (Int32.toNatClampNeg x4)), vI x5]) (S := []) dX12_compare_89 (kX12_looked hc28) g1 rfl mkX12_366 mwX12_looked rfl ⟨Nat.le_of_ble_eq_true rfl, Nat.le_of_ble_eq_true rfl⟩ (Nat.le_of_ble_eq_true rfl) ⟨Nat.le_refl _, Nat.le_refl _⟩ (fun b => b) ?_
            refine r_goto (pc := 92) (tgt := 97) dX12_compare_92 rfl ?_
            refine r_sub [3, 4, 6, 8, 2, 1] rfl ?_
            exact wX12_compare_b97 h
        · have h := ie h c
          refine r_aload_n (pc := 56) dX12_compare_56 rfl 2 rfl ?_
          refine r_iload (pc := 57) dX12_compare_57 0 rfl ?_
          refine r_iload_n (pc := 59) dX12_compare_59 rfl 3 rfl ?_
          obtain ⟨r29, hc30, h⟩ := ob h
          refine r_callV1 (pc := 60) (av := [vI (I a2 (Int32.toNatClampNeg x4)), vI x1]) (S := []) dX12_compare_60 (kX12_isOf hc30) g1 rfl mkX12_363 mwX12_isOf rfl ⟨Nat.le_of_ble_eq_true rfl, Nat.le_of_ble_eq_true rfl⟩ (Nat.le_of_ble_eq_true rfl) ⟨Nat.le_refl _, Nat.le_refl _⟩ (fun b => b) ?_
          refine r_if_eq (pc := 63) (tgt := 76) dX12_compare_63 rfl (fun c => ?_) (fun c => ?_)
          · have h := it h c
            refine r_iconst (pc := 76) dX12_compare_76 kc_iconst_4 ?_
            refine r_istore (pc := 77) (L' := [(8, vI (4 : Int32)), (7, vI (I a2 (Int32.toNatClampNeg x4))), (6, vI (I a2 (Int32.toNatClampNeg x2))), (0, vR (some t)), (1, vI x1), (2, vI x2), (3, vI x3), (4, vI x4), (5, vI x5)]) dX12_compare_77 (by decide) rfl ?_
            refine r_iload (pc := 79) dX12_compare_79 0 rfl ?_
            refine r_ifne (pc := 81) (tgt := 95) dX12_compare_81 rfl (fun c => ?_) (fun c => ?_)
            · have h := ie h c
              refine r_iload (pc := 95) dX12_compare_95 0 rfl ?_
              refine r_sub [3, 4, 6, 8, 2, 1] rfl ?_
              exact wX12_compare_b97 h
            · have h := it h c
              refine r_aload_n (pc := 84) dX12_compare_84 rfl 3 rfl ?_
              refine r_iload (pc := 85) dX12_compare_85 1 rfl ?_
              refine r_iload (pc := 87) dX12_compare_87 8 rfl ?_
              obtain ⟨r31, hc32, h⟩ := ob h
              refine r_callV1 (pc := 89) (av := [vI (I a2 (Int32.toNatClampNeg x4)), vI x5]) (S := []) dX12_compare_89 (kX12_looked hc32) g1 rfl mkX12_366 mwX12_looked rfl ⟨Nat.le_of_ble_eq_true rfl, Nat.le_of_ble_eq_true rfl⟩ (Nat.le_of_ble_eq_true rfl) ⟨Nat.le_refl _, Nat.le_refl _⟩ (fun b => b) ?_
              refine r_goto (pc := 92) (tgt := 97) dX12_compare_92 rfl ?_
              refine r_sub [3, 4, 6, 8, 2, 1] rfl ?_
              exact wX12_compare_b97 h
          · have h := ie h c
            refine r_aload_n (pc := 66) dX12_compare_66 rfl 2 rfl ?_
            refine r_iload (pc := 67) dX12_compare_67 1 rfl ?_
            refine r_iload_n (pc := 69) dX12_compare_69 rfl 5 rfl ?_
            obtain ⟨r33, hc34, h⟩ := ob h
            refine r_callV1 (pc := 70) (av := [vI (I a2 (Int32.toNatClampNeg x2)), vI x3]) (S := []) dX12_compare_70 (kX12_looked hc34) g1 rfl mkX12_366 mwX12_looked rfl ⟨Nat.le_of_ble_eq_true rfl, Nat.le_of_ble_eq_true rfl⟩ (Nat.le_of_ble_eq_true rfl) ⟨Nat.le_refl _, Nat.le_refl _⟩ (fun b => b) ?_
            refine r_goto (pc := 73) (tgt := 77) dX12_compare_73 rfl ?_
            refine r_istore (pc := 77) (L' := [(8, vI r33), (7, vI (I a2 (Int32.toNatClampNeg x4))), (6, vI (I a2 (Int32.toNatClampNeg x2))), (0, vR (some t)), (1, vI x1), (2, vI x2), (3, vI x3), (4, vI x4), (5, vI x5)]) dX12_compare_77 (by decide) rfl ?_
            refine r_iload (pc := 79) dX12_compare_79 0 rfl ?_
            refine r_ifne (pc := 81) (tgt := 95) dX12_compare_81 rfl (fun c => ?_) (fun c => ?_)
            · have h := ie h c
              refine r_iload (pc := 95) dX12_compare_95 0 rfl ?_
              refine r_sub [3, 4, 6, 8, 2, 1] rfl ?_
              exact wX12_compare_b97 h
            · have h := it h c
              refine r_aload_n (pc := 84) dX12_compare_84 rfl 3 rfl ?_
              refine r_iload (pc := 85) dX12_compare_85 1 rfl ?_
              refine r_iload (pc := 87) dX12_compare_87 8 rfl ?_
              obtain ⟨r35, hc36, h⟩ := ob h
              refine r_callV1 (pc := 89) (av := [vI (I a2 (Int32.toNatClampNeg x4)), vI x5]) (S := []) dX12_compare_89 (kX12_looked hc36) g1 rfl mkX12_366 mwX12_looked rfl ⟨Nat.le_of_ble_eq_true rfl, Nat.le_of_ble_eq_true rfl⟩ (Nat.le_of_ble_eq_true rfl) ⟨Nat.le_refl _, Nat.le_refl _⟩ (fun b => b) ?_
              refine r_goto (pc := 92) (tgt := 97) dX12_compare_92 rfl ?_
              refine r_sub [3, 4, 6, 8, 2, 1] rfl ?_
              exact wX12_compare_b97 h
      · have h := it h c
        refine r_bipush (pc := 26) dX12_compare_26 kc_bipush_m2 ?_
        cases h
        exact r_iret dX12_compare_28
abbrev WX12_isMinus (G : Gx) (l : Launch) (σ0 : Shp) (X1 : Stt) (rv : Option SV) : Stt → Nat → List (Nat × SV) → List SV → Prop := Wm G l yX12_isMinus cX12_isMinus 2 (some .boolean) (fun _ => True) (rmx 0 0 σ0 X1.1) σ0 (Qmx G σ0 X1 rv)
def fX12_isMinus  (x0 : UInt64) : Option ((Int32)) :=
  if (Op.cmpValue (FP.dcmp x0 (FP.dconst0)) .g) < 0 then
    some (1 : Int32)
  else
    if (Op.cmpValue (FP.dcmp x0 (FP.dconst0)) .l) = 0 then
      if (FP.ddiv (FP.dconst1) x0) &&& 0x7fffffffffffffff ≤ 0x7ff0000000000000 then
      if 0 ≤ (Op.cmpValue (FP.dcmp (FP.ddiv (FP.dconst1) x0) (FP.dconst0)) .g) then
        some (0 : Int32)
      else
        some (1 : Int32)
      else none
    else
      some (0 : Int32)
theorem kX12_isMinus {G : Gx} {l : Launch} {σ : Shp} {I : Nat → Nat → Int32} {J : Nat → Nat → Int64} {D : Nat → Nat → UInt64} {R : Nat → Nat → Option Nat} {x0 : UInt64} {r9 : Int32} (h : fX12_isMinus x0 = some r9) : Con G l yX12_isMinus cX12_isMinus 2 (some .boolean) 0 0 [vD x0] (σ, I, J, D, R) (σ, I, J, D, R) (some (vI r9)) := by
  unfold fX12_isMinus at h
  refine Con.mk (by decide +kernel) rfl (Nat.le_of_ble_eq_true rfl) ?_
  show WX12_isMinus G l σ (σ, I, J, D, R) (some (vI r9)) (σ, I, J, D, R) 0 _ []
  refine r_dload_n (pc := 0) dX12_isMinus_0 rfl 0 rfl ?_
  refine r_dconst0 (pc := 1) dX12_isMinus_1 ?_
  refine r_dcmp (pc := 2) dX12_isMinus_2 ?_
  refine r_if_lt (pc := 3) (tgt := 20) dX12_isMinus_3 rfl (fun c => ?_) (fun c => ?_)
  · have h := it h c
    refine r_iconst (pc := 20) dX12_isMinus_20 kc_iconst_1 ?_
    refine r_goto (pc := 21) (tgt := 25) dX12_isMinus_21 rfl ?_
    cases h
    exact r_zret dX12_isMinus_25 (Or.inr rfl)
  · have h := ie h c
    refine r_dload_n (pc := 6) dX12_isMinus_6 rfl 0 rfl ?_
    refine r_dconst0 (pc := 7) dX12_isMinus_7 ?_
    refine r_dcmp (pc := 8) dX12_isMinus_8 ?_
    refine r_ifne (pc := 9) (tgt := 24) dX12_isMinus_9 rfl (fun c => ?_) (fun c => ?_)
    · have h := ie h c
      refine r_iconst (pc := 24) dX12_isMinus_24 kc_iconst_0 ?_
      cases h
      exact r_zret dX12_isMinus_25 (Or.inl rfl)
    · have h := it h c
      refine r_dconst1 (pc := 12) dX12_isMinus_12 ?_
      refine r_dload_n (pc := 13) dX12_isMinus_13 rfl 0 rfl ?_
      obtain ⟨g1, h⟩ := gd h
      refine r_ddiv (pc := 14) dX12_isMinus_14 g1 ?_
      refine r_dconst0 (pc := 15) dX12_isMinus_15 ?_
      refine r_dcmp (pc := 16) dX12_isMinus_16 ?_
      refine r_ifge (pc := 17) (tgt := 24) dX12_isMinus_17 rfl (fun c => ?_) (fun c => ?_)
      · have h := it h c
        refine r_iconst (pc := 24) dX12_isMinus_24 kc_iconst_0 ?_
        cases h
        exact r_zret dX12_isMinus_25 (Or.inl rfl)
      · have h := ie h c
        refine r_iconst (pc := 20) dX12_isMinus_20 kc_iconst_1 ?_
        refine r_goto (pc := 21) (tgt := 25) dX12_isMinus_21 rfl ?_
        cases h
        exact r_zret dX12_isMinus_25 (Or.inr rfl)
abbrev WX12_isLess (G : Gx) (l : Launch) (σ0 : Shp) (X1 : Stt) (rv : Option SV) : Stt → Nat → List (Nat × SV) → List SV → Prop := Wm G l yX12_isLess cX12_isLess 4 (some .boolean) (fun _ => True) (rmx 1 21 σ0 X1.1) σ0 (Qmx G σ0 X1 rv)
def fX12_isLess  (x0 : UInt64) (x2 : UInt64) : Option ((Int32)) :=
  if (Op.cmpValue (FP.dcmp x0 x2) .g) < 0 then
    some (1 : Int32)
  else
    if (Op.cmpValue (FP.dcmp x0 x2) .l) = 0 then
      (fX12_isMinus x0).bind fun r1 =>
      if r1 = 0 then
        some (0 : Int32)
      else
        (fX12_isMinus x2).bind fun r3 =>
        if r3 = 0 then
          some (1 : Int32)
        else
          some (0 : Int32)
    else
      some (0 : Int32)
theorem kX12_isLess {G : Gx} {l : Launch} {σ : Shp} {I : Nat → Nat → Int32} {J : Nat → Nat → Int64} {D : Nat → Nat → UInt64} {R : Nat → Nat → Option Nat} {x0 : UInt64} {x2 : UInt64} {r9 : Int32} (h : fX12_isLess x0 x2 = some r9) : Con G l yX12_isLess cX12_isLess 4 (some .boolean) 1 21 [vD x0, vD x2] (σ, I, J, D, R) (σ, I, J, D, R) (some (vI r9)) := by
  unfold fX12_isLess at h
  refine Con.mk (by decide +kernel) rfl (Nat.le_of_ble_eq_true rfl) ?_
  show WX12_isLess G l σ (σ, I, J, D, R) (some (vI r9)) (σ, I, J, D, R) 0 _ []
  refine r_dload_n (pc := 0) dX12_isLess_0 rfl 0 rfl ?_
  refine r_dload_n (pc := 1) dX12_isLess_1 rfl 1 rfl ?_
  refine r_dcmp (pc := 2) dX12_isLess_2 ?_
  refine r_if_lt (pc := 3) (tgt := 26) dX12_isLess_3 rfl (fun c => ?_) (fun c => ?_)
  · have h := it h c
    refine r_iconst (pc := 26) dX12_isLess_26 kc_iconst_1 ?_
    refine r_goto (pc := 27) (tgt := 31) dX12_isLess_27 rfl ?_
    cases h
    exact r_zret dX12_isLess_31 (Or.inr rfl)
  · have h := ie h c
    refine r_dload_n (pc := 6) dX12_isLess_6 rfl 0 rfl ?_
    refine r_dload_n (pc := 7) dX12_isLess_7 rfl 1 rfl ?_
    refine r_dcmp (pc := 8) dX12_isLess_8 ?_
    refine r_ifne (pc := 9) (tgt := 30) dX12_isLess_9 rfl (fun c => ?_) (fun c => ?_)
    · have h := ie h c
      refine r_iconst (pc := 30) dX12_isLess_30 kc_iconst_0 ?_
      cases h
      exact r_zret dX12_isLess_31 (Or.inl rfl)
    · have h := it h c
      refine r_dload_n (pc := 12) dX12_isLess_12 rfl 0 rfl ?_
      obtain ⟨r1, hc2, h⟩ := ob h
      refine r_callS1 (pc := 13) (av := [vD x0]) (S := []) dX12_isLess_13 (kX12_isMinus hc2) mkX12_715 mwX12_isMinus rfl ⟨Nat.le_of_ble_eq_true rfl, Nat.le_of_ble_eq_true rfl⟩ (Nat.le_of_ble_eq_true rfl) ⟨Nat.le_refl _, Nat.le_refl _⟩ (fun b => b) ?_
      refine r_if_eq (pc := 16) (tgt := 30) dX12_isLess_16 rfl (fun c => ?_) (fun c => ?_)
      · have h := it h c
        refine r_iconst (pc := 30) dX12_isLess_30 kc_iconst_0 ?_
        cases h
        exact r_zret dX12_isLess_31 (Or.inl rfl)
      · have h := ie h c
        refine r_dload_n (pc := 19) dX12_isLess_19 rfl 1 rfl ?_
        obtain ⟨r3, hc4, h⟩ := ob h
        refine r_callS1 (pc := 20) (av := [vD x2]) (S := []) dX12_isLess_20 (kX12_isMinus hc4) mkX12_715 mwX12_isMinus rfl ⟨Nat.le_of_ble_eq_true rfl, Nat.le_of_ble_eq_true rfl⟩ (Nat.le_of_ble_eq_true rfl) ⟨Nat.le_refl _, Nat.le_refl _⟩ (fun b => b) ?_
        refine r_ifne (pc := 23) (tgt := 30) dX12_isLess_23 rfl (fun c => ?_) (fun c => ?_)
        · have h := ie h c
          refine r_iconst (pc := 30) dX12_isLess_30 kc_iconst_0 ?_
          cases h
          exact r_zret dX12_isLess_31 (Or.inl rfl)
        · have h := it h c
          refine r_iconst (pc := 26) dX12_isLess_26 kc_iconst_1 ?_
          refine r_goto (pc := 27) (tgt := 31) dX12_isLess_27 rfl ?_
          cases h
          exact r_zret dX12_isLess_31 (Or.inr rfl)
abbrev WX12_parted (G : Gx) (l : Launch) (σ0 : Shp) (X1 : Stt) (rv : Option SV) : Stt → Nat → List (Nat × SV) → List SV → Prop := Wm G l yX12_parted cX12_parted 6 none (fun _ => True) (rmx 0 0 σ0 X1.1) σ0 (Qmx G σ0 X1 rv)
def fX12_parted_l38  (σ : Shp) (t : Nat) : Nat → (Nat → Nat → Int32) → (Nat → Nat → Int64) → (Int32) → (UInt64) → Option ((Nat → Nat → Int32) × (Nat → Nat → Int64))
  | 0, _, _, _, _ => none
  | n + 1, I, J, x3, x4 =>
    if 0 ≤ (Op.cmpValue (FP.dcmp x4 (4841369599423283200 : UInt64)) .g) then
      if kdx σ t = 13 then
      let J4 := u2 J t 133 (FP.d2l x4)
      some (I, J4)
      else none
    else
      if kdx σ t = 13 then
      if (I t 134) ≤ x3 then
        let J6 := u2 J t 133 (FP.d2l x4)
        some (I, J6)
      else
        if (FP.dmul x4 (4611686018427387904 : UInt64)) &&& 0x7fffffffffffffff ≤ 0x7ff0000000000000 then
        let v8 := (FP.dmul x4 (4611686018427387904 : UInt64))
        let I9 := u2 I t 134 ((I t 134) - (1 : Int32))
        fX12_parted_l38 σ t n I9 J x3 v8
        else none
      else none
theorem wX12_parted_l38 {G : Gx} {l : Launch} {σ : Shp} {D : Nat → Nat → UInt64} {R : Nat → Nat → Option Nat} {t : Nat} {I9 : Nat → Nat → Int32} {J9 : Nat → Nat → Int64} : ∀ (n : Nat) (I : Nat → Nat → Int32) (J : Nat → Nat → Int64) (x3 : Int32) (x4 : UInt64), fX12_parted_l38 σ t n I J x3 x4 = some (I9, J9) → WX12_parted G l σ (σ, I9, J9, D, R) none (σ, I, J, D, R) 38 [(0, vR (some t)), (3, vI x3), (4, vD x4)] [] := by
  intro n
  induction n with
  | zero =>
    intro I J x3 x4 h
    have h : none = some _ := h
    cases h
  | succ n ih =>
    intro I J x3 x4 h
    rw [fX12_parted_l38] at h
    refine r_dload (pc := 38) dX12_parted_38 2 rfl ?_
    refine r_ldc2d (pc := 40) dX12_parted_40 cdX12_863 ?_
    refine r_dcmp (pc := 43) dX12_parted_43 ?_
    refine r_ifge (pc := 44) (tgt := 76) dX12_parted_44 rfl (fun c => ?_) (fun c => ?_)
    · have h := it h c
      refine r_aload_n (pc := 76) dX12_parted_76 rfl 0 rfl ?_
      refine r_dload (pc := 77) dX12_parted_77 2 rfl ?_
      refine r_d2l (pc := 79) dX12_parted_79 ?_
      obtain ⟨g3, h⟩ := gd h
      refine r_putL (pc := 80) dX12_parted_80 fwX12_865 rfl g3 ?_
      cases h
      exact r_vret dX12_parted_83
    · have h := ie h c
      refine r_aload_n (pc := 47) dX12_parted_47 rfl 0 rfl ?_
      obtain ⟨g5, h⟩ := gd h
      refine r_getI (pc := 48) dX12_parted_48 fgX12_858 rfl g5 ?_
      refine r_iload_n (pc := 51) dX12_parted_51 rfl 1 rfl ?_
      refine r_icmp_le (pc := 52) (tgt := 76) dX12_parted_52 rfl (fun c => ?_) (fun c => ?_)
      · have h := it h c
        refine r_aload_n (pc := 76) dX12_parted_76 rfl 0 rfl ?_
        refine r_dload (pc := 77) dX12_parted_77 2 rfl ?_
        refine r_d2l (pc := 79) dX12_parted_79 ?_
        refine r_putL (pc := 80) dX12_parted_80 fwX12_865 rfl g5 ?_
        cases h
        exact r_vret dX12_parted_83
      · have h := ie h c
        refine r_dload (pc := 55) dX12_parted_55 2 rfl ?_
        refine r_ldc2d (pc := 57) dX12_parted_57 cdX12_198 ?_
        obtain ⟨g7, h⟩ := gd h
        refine r_dmul (pc := 60) dX12_parted_60 g7 ?_
        refine r_dstore (pc := 61) (L' := [(4, vD (FP.dmul x4 (4611686018427387904 : UInt64))), (0, vR (some t)), (3, vI x3)]) dX12_parted_61 (by decide) rfl ?_
        refine r_aload_n (pc := 63) dX12_parted_63 rfl 1 rfl ?_
        refine r_dup (pc := 64) dX12_parted_64 rfl ?_
        refine r_getI (pc := 65) dX12_parted_65 fgX12_858 rfl g5 ?_
        refine r_iconst (pc := 68) dX12_parted_68 kc_iconst_1 ?_
        refine r_isub (pc := 69) dX12_parted_69 ?_
        refine r_putI (pc := 70) dX12_parted_70 fwX12_858 rfl g5 ?_
        refine r_goto (pc := 73) (tgt := 38) dX12_parted_73 rfl ?_
        refine r_sub [1, 2, 0] rfl ?_
        exact ih _ _ _ _ h
def fX12_parted_l8  (σ : Shp) (t : Nat) : Nat → (Nat → Nat → Int32) → (Nat → Nat → Int64) → (Int32) → (UInt64) → Option ((Nat → Nat → Int32) × (Nat → Nat → Int64))
  | 0, _, _, _, _ => none
  | n + 1, I, J, x3, x4 =>
    if (Op.cmpValue (FP.dcmp x4 (4845873199050653696 : UInt64)) .l) < 0 then
      fX12_parted_l38 σ t FUx I J x3 x4
    else
      if (FP.ddiv x4 (4611686018427387904 : UInt64)) &&& 0x7fffffffffffffff ≤ 0x7ff0000000000000 then
      let v11 := (FP.ddiv x4 (4611686018427387904 : UInt64))
      if kdx σ t = 13 then
      let I13 := u2 I t 134 ((I t 134) + (1 : Int32))
      fX12_parted_l8 σ t n I13 J x3 v11
      else none
      else none
theorem wX12_parted_l8 {G : Gx} {l : Launch} {σ : Shp} {D : Nat → Nat → UInt64} {R : Nat → Nat → Option Nat} {t : Nat} {I9 : Nat → Nat → Int32} {J9 : Nat → Nat → Int64} : ∀ (n : Nat) (I : Nat → Nat → Int32) (J : Nat → Nat → Int64) (x3 : Int32) (x4 : UInt64), fX12_parted_l8 σ t n I J x3 x4 = some (I9, J9) → WX12_parted G l σ (σ, I9, J9, D, R) none (σ, I, J, D, R) 8 [(0, vR (some t)), (3, vI x3), (4, vD x4)] [] := by
  intro n
  induction n with
  | zero =>
    intro I J x3 x4 h
    have h : none = some _ := h
    cases h
  | succ n ih =>
    intro I J x3 x4 h
    rw [fX12_parted_l8] at h
    refine r_dload (pc := 8) dX12_parted_8 2 rfl ?_
    refine r_ldc2d (pc := 10) dX12_parted_10 cdX12_861 ?_
    refine r_dcmp (pc := 13) dX12_parted_13 ?_
    refine r_if_lt (pc := 14) (tgt := 38) dX12_parted_14 rfl (fun c => ?_) (fun c => ?_)
    · have h := it h c
      refine r_sub [0, 1, 2] rfl ?_
      exact wX12_parted_l38 _ _ _ _ _ h
    · have h := ie h c
      refine r_dload (pc := 17) dX12_parted_17 2 rfl ?_
      refine r_ldc2d (pc := 19) dX12_parted_19 cdX12_198 ?_
      obtain ⟨g10, h⟩ := gd h
      refine r_ddiv (pc := 22) dX12_parted_22 g10 ?_
      refine r_dstore (pc := 23) (L' := [(4, vD (FP.ddiv x4 (4611686018427387904 : UInt64))), (0, vR (some t)), (3, vI x3)]) dX12_parted_23 (by decide) rfl ?_
      refine r_aload_n (pc := 25) dX12_parted_25 rfl 1 rfl ?_
      refine r_dup (pc := 26) dX12_parted_26 rfl ?_
      obtain ⟨g12, h⟩ := gd h
      refine r_getI (pc := 27) dX12_parted_27 fgX12_858 rfl g12 ?_
      refine r_iconst (pc := 30) dX12_parted_30 kc_iconst_1 ?_
      refine r_iadd (pc := 31) dX12_parted_31 ?_
      refine r_putI (pc := 32) dX12_parted_32 fwX12_858 rfl g12 ?_
      refine r_goto (pc := 35) (tgt := 8) dX12_parted_35 rfl ?_
      refine r_sub [1, 2, 0] rfl ?_
      exact ih _ _ _ _ h
def fX12_parted (σ : Shp) (I : Nat → Nat → Int32) (J : Nat → Nat → Int64) (t : Nat) (x1 : UInt64) (x3 : Int32) : Option ((Nat → Nat → Int32) × (Nat → Nat → Int64)) :=
  if kdx σ t = 13 then
  let I2 := u2 I t 134 (0 : Int32)
  fX12_parted_l8 σ t FUx I2 J x3 x1
  else none
theorem kX12_parted {G : Gx} {l : Launch} {σ : Shp} {I : Nat → Nat → Int32} {J : Nat → Nat → Int64} {D : Nat → Nat → UInt64} {R : Nat → Nat → Option Nat} {t : Nat} {x1 : UInt64} {x3 : Int32} {I9 : Nat → Nat → Int32} {J9 : Nat → Nat → Int64} (h : fX12_parted σ I J t x1 x3 = some (I9, J9)) : Con G l yX12_parted cX12_parted 6 none 0 0 [vR (some t), vD x1, vI x3] (σ, I, J, D, R) (σ, I9, J9, D, R) none := by
  unfold fX12_parted at h
  refine Con.mk (by decide +kernel) rfl (Nat.le_of_ble_eq_true rfl) ?_
  show WX12_parted G l σ (σ, I9, J9, D, R) none (σ, I, J, D, R) 0 _ []
  refine r_dload_n (pc := 0) dX12_parted_0 rfl 1 rfl ?_
  refine r_dstore (pc := 1) (L' := [(4, vD x1), (0, vR (some t)), (1, vD x1), (3, vI x3)]) dX12_parted_1 (by decide) rfl ?_
  refine r_aload_n (pc := 3) dX12_parted_3 rfl 1 rfl ?_
  refine r_iconst (pc := 4) dX12_parted_4 kc_iconst_0 ?_
  obtain ⟨g1, h⟩ := gd h
  refine r_putI (pc := 5) dX12_parted_5 fwX12_858 rfl g1 ?_
  refine r_sub [1, 3, 0] rfl ?_
  exact wX12_parted_l8 _ _ _ _ _ h
abbrev WX12_bits (G : Gx) (l : Launch) (σ0 : Shp) (X1 : Stt) (rv : Option SV) : Stt → Nat → List (Nat × SV) → List SV → Prop := Wm G l yX12_bits cX12_bits 8 (some .long) (fun _ => True) (rmx 1 25 σ0 X1.1) σ0 (Qmx G σ0 X1 rv)
def fX12_bits_b57  (σ : Shp) (t : Nat) (I : Nat → Nat → Int32) (J : Nat → Nat → Int64) (x3 : Int32) (x4 : UInt64) (x6 : Int64) : Option ((Nat → Nat → Int32) × (Nat → Nat → Int64) × (Int64)) :=
  if (Op.cmpValue (FP.dcmp x4 (FP.dconst0)) .l) ≤ 0 then
    if x3 = 0 then
      some (I, J, x6)
    else
      some (I, J, (x6 ||| (-9223372036854775808 : Int64)))
  else
    if kdx σ t = 13 then
    (fX12_parted σ I J t x4 (-1074 : Int32)).bind fun (I4, J5) =>
    if (4503599627370496 : Int64) ≤ (J5 t 133) then
      let v7 := (((Int32.toInt64 ((I4 t 134) + (1075 : Int32))) <<< (Int32.toInt64 (52 : Int32) &&& 63)) ||| ((J5 t 133) &&& (4503599627370495 : Int64)))
      if x3 = 0 then
        some (I4, J5, v7)
      else
        some (I4, J5, (v7 ||| (-9223372036854775808 : Int64)))
    else
      let v8 := (J5 t 133)
      if x3 = 0 then
        some (I4, J5, v8)
      else
        some (I4, J5, (v8 ||| (-9223372036854775808 : Int64)))
    else none
theorem wX12_bits_b57 {G : Gx} {l : Launch} {σ : Shp} {I : Nat → Nat → Int32} {J : Nat → Nat → Int64} {D : Nat → Nat → UInt64} {R : Nat → Nat → Option Nat} {t : Nat} {I9 : Nat → Nat → Int32} {J9 : Nat → Nat → Int64} {r9 : Int64} {x3 : Int32} {x4 : UInt64} {x6 : Int64} (h : fX12_bits_b57 σ t I J x3 x4 x6 = some (I9, J9, r9)) : WX12_bits G l σ (σ, I9, J9, D, R) (some (vL r9)) (σ, I, J, D, R) 57 [(0, vR (some t)), (3, vI x3), (4, vD x4), (6, vL x6)] [] := by
  unfold fX12_bits_b57 at h
  refine r_dload (pc := 57) dX12_bits_57 2 rfl ?_
  refine r_dconst0 (pc := 59) dX12_bits_59 ?_
  refine r_dcmp (pc := 60) dX12_bits_60 ?_
  refine r_if_le (pc := 61) (tgt := 114) dX12_bits_61 rfl (fun c => ?_) (fun c => ?_)
  · have h := it h c
    refine r_iload_n (pc := 114) dX12_bits_114 rfl 1 rfl ?_
    refine r_if_eq (pc := 115) (tgt := 127) dX12_bits_115 rfl (fun c => ?_) (fun c => ?_)
    · have h := it h c
      refine r_lload (pc := 127) dX12_bits_127 3 rfl ?_
      cases h
      exact r_lret dX12_bits_129
    · have h := ie h c
      refine r_lload (pc := 118) dX12_bits_118 3 rfl ?_
      refine r_ldc2 (pc := 120) dX12_bits_120 clX12_873 ?_
      refine r_lor (pc := 123) dX12_bits_123 ?_
      refine r_goto (pc := 124) (tgt := 129) dX12_bits_124 rfl ?_
      cases h
      exact r_lret dX12_bits_129
  · have h := ie h c
    refine r_aload_n (pc := 64) dX12_bits_64 rfl 0 rfl ?_
    refine r_dload (pc := 65) dX12_bits_65 2 rfl ?_
    refine r_sipush (pc := 67) dX12_bits_67 kc_sipush_m1074 ?_
    obtain ⟨g3, h⟩ := gd h
    obtain ⟨⟨I4, J5⟩, hc6, h⟩ := ob h
    refine r_callV0 (pc := 70) (av := [vD x4, vI (-1074 : Int32)]) (S := []) dX12_bits_70 (kX12_parted hc6) g3 rfl mkX12_869 mwX12_parted rfl ⟨Nat.le_of_ble_eq_true rfl, Nat.le_of_ble_eq_true rfl⟩ (Nat.le_of_ble_eq_true rfl) ⟨Nat.le_refl _, Nat.le_refl _⟩ (fun b => b) ?_
    refine r_aload_n (pc := 73) dX12_bits_73 rfl 0 rfl ?_
    refine r_getL (pc := 74) dX12_bits_74 fgX12_865 rfl g3 ?_
    refine r_ldc2 (pc := 77) dX12_bits_77 clX12_852 ?_
    refine r_lcmp (pc := 80) dX12_bits_80 ?_
    refine r_ifge (pc := 81) (tgt := 91) dX12_bits_81 rfl (fun c => ?_) (fun c => ?_)
    · have h := it h (lgc_ge.mp c)
      refine r_aload_n (pc := 91) dX12_bits_91 rfl 0 rfl ?_
      refine r_getI (pc := 92) dX12_bits_92 fgX12_858 rfl g3 ?_
      refine r_sipush (pc := 95) dX12_bits_95 kc_sipush_1075 ?_
      refine r_iadd (pc := 98) dX12_bits_98 ?_
      refine r_i2l (pc := 99) dX12_bits_99 ?_
      refine r_bipush (pc := 100) dX12_bits_100 kc_bipush_52 ?_
      refine r_lshl (pc := 102) dX12_bits_102 ?_
      refine r_aload_n (pc := 103) dX12_bits_103 rfl 0 rfl ?_
      refine r_getL (pc := 104) dX12_bits_104 fgX12_865 rfl g3 ?_
      refine r_ldc2 (pc := 107) dX12_bits_107 clX12_842 ?_
      refine r_land (pc := 110) dX12_bits_110 ?_
      refine r_lor (pc := 111) dX12_bits_111 ?_
      refine r_lstore (pc := 112) (L' := [(6, vL (((Int32.toInt64 ((I4 t 134) + (1075 : Int32))) <<< (Int32.toInt64 (52 : Int32) &&& 63)) ||| ((J5 t 133) &&& (4503599627370495 : Int64)))), (0, vR (some t)), (3, vI x3), (4, vD x4)]) dX12_bits_112 (by decide) rfl ?_
      refine r_iload_n (pc := 114) dX12_bits_114 rfl 2 rfl ?_
      refine r_if_eq (pc := 115) (tgt := 127) dX12_bits_115 rfl (fun c => ?_) (fun c => ?_)
      · have h := it h c
        refine r_lload (pc := 127) dX12_bits_127 0 rfl ?_
        cases h
        exact r_lret dX12_bits_129
      · have h := ie h c
        refine r_lload (pc := 118) dX12_bits_118 0 rfl ?_
        refine r_ldc2 (pc := 120) dX12_bits_120 clX12_873 ?_
        refine r_lor (pc := 123) dX12_bits_123 ?_
        refine r_goto (pc := 124) (tgt := 129) dX12_bits_124 rfl ?_
        cases h
        exact r_lret dX12_bits_129
    · have h := ie h (fun q => c (lgc_ge.mpr q))
      refine r_aload_n (pc := 84) dX12_bits_84 rfl 0 rfl ?_
      refine r_getL (pc := 85) dX12_bits_85 fgX12_865 rfl g3 ?_
      refine r_goto (pc := 88) (tgt := 112) dX12_bits_88 rfl ?_
      refine r_lstore (pc := 112) (L' := [(6, vL (J5 t 133)), (0, vR (some t)), (3, vI x3), (4, vD x4)]) dX12_bits_112 (by decide) rfl ?_
      refine r_iload_n (pc := 114) dX12_bits_114 rfl 2 rfl ?_
      refine r_if_eq (pc := 115) (tgt := 127) dX12_bits_115 rfl (fun c => ?_) (fun c => ?_)
      · have h := it h c
        refine r_lload (pc := 127) dX12_bits_127 0 rfl ?_
        cases h
        exact r_lret dX12_bits_129
      · have h := ie h c
        refine r_lload (pc := 118) dX12_bits_118 0 rfl ?_
        refine r_ldc2 (pc := 120) dX12_bits_120 clX12_873 ?_
        refine r_lor (pc := 123) dX12_bits_123 ?_
        refine r_goto (pc := 124) (tgt := 129) dX12_bits_124 rfl ?_
        cases h
        exact r_lret dX12_bits_129
def fX12_bits_b25  (σ : Shp) (t : Nat) (I : Nat → Nat → Int32) (J : Nat → Nat → Int64) (x3 : Int32) (s0 : UInt64) : Option ((Nat → Nat → Int32) × (Nat → Nat → Int64) × (Int64)) :=
  if (Op.cmpValue (FP.dcmp s0 (FP.dconst0)) .l) ≤ 0 then
    fX12_bits_b57 σ t I J x3 s0 (0 : Int64)
  else
    if (FP.ddiv s0 (4611686018427387904 : UInt64)) &&& 0x7fffffffffffffff ≤ 0x7ff0000000000000 then
    if (Op.cmpValue (FP.dcmp (FP.ddiv s0 (4611686018427387904 : UInt64)) s0) .l) = 0 then
      if x3 = 0 then
        some (I, J, (9218868437227405312 : Int64))
      else
        some (I, J, ((9218868437227405312 : Int64) ||| (-9223372036854775808 : Int64)))
    else
      fX12_bits_b57 σ t I J x3 s0 (0 : Int64)
    else none
theorem wX12_bits_b25 {G : Gx} {l : Launch} {σ : Shp} {I : Nat → Nat → Int32} {J : Nat → Nat → Int64} {D : Nat → Nat → UInt64} {R : Nat → Nat → Option Nat} {t : Nat} {I9 : Nat → Nat → Int32} {J9 : Nat → Nat → Int64} {r9 : Int64} {x3 : Int32} {s0 : UInt64} (h : fX12_bits_b25 σ t I J x3 s0 = some (I9, J9, r9)) : WX12_bits G l σ (σ, I9, J9, D, R) (some (vL r9)) (σ, I, J, D, R) 25 [(0, vR (some t)), (3, vI x3)] [vD s0] := by
  unfold fX12_bits_b25 at h
  refine r_dstore (pc := 25) (L' := [(4, vD s0), (0, vR (some t)), (3, vI x3)]) dX12_bits_25 (by decide) rfl ?_
  refine r_lconst (pc := 27) dX12_bits_27 kc_lconst_0 ?_
  refine r_lstore (pc := 28) (L' := [(6, vL (0 : Int64)), (4, vD s0), (0, vR (some t)), (3, vI x3)]) dX12_bits_28 (by decide) rfl ?_
  refine r_dload (pc := 30) dX12_bits_30 1 rfl ?_
  refine r_dconst0 (pc := 32) dX12_bits_32 ?_
  refine r_dcmp (pc := 33) dX12_bits_33 ?_
  refine r_if_le (pc := 34) (tgt := 57) dX12_bits_34 rfl (fun c => ?_) (fun c => ?_)
  · have h := it h c
    refine r_sub [2, 3, 1, 0] rfl ?_
    exact wX12_bits_b57 h
  · have h := ie h c
    refine r_dload (pc := 37) dX12_bits_37 1 rfl ?_
    refine r_ldc2d (pc := 39) dX12_bits_39 cdX12_198 ?_
    obtain ⟨g9, h⟩ := gd h
    refine r_ddiv (pc := 42) dX12_bits_42 g9 ?_
    refine r_dload (pc := 43) dX12_bits_43 1 rfl ?_
    refine r_dcmp (pc := 45) dX12_bits_45 ?_
    refine r_ifne (pc := 46) (tgt := 57) dX12_bits_46 rfl (fun c => ?_) (fun c => ?_)
    · have h := ie h c
      refine r_sub [2, 3, 1, 0] rfl ?_
      exact wX12_bits_b57 h
    · have h := it h c
      refine r_ldc2 (pc := 49) dX12_bits_49 clX12_343 ?_
      refine r_lstore (pc := 52) (L' := [(6, vL (9218868437227405312 : Int64)), (4, vD s0), (0, vR (some t)), (3, vI x3)]) dX12_bits_52 (by decide) rfl ?_
      refine r_goto (pc := 54) (tgt := 114) dX12_bits_54 rfl ?_
      refine r_iload_n (pc := 114) dX12_bits_114 rfl 3 rfl ?_
      refine r_if_eq (pc := 115) (tgt := 127) dX12_bits_115 rfl (fun c => ?_) (fun c => ?_)
      · have h := it h c
        refine r_lload (pc := 127) dX12_bits_127 0 rfl ?_
        cases h
        exact r_lret dX12_bits_129
      · have h := ie h c
        refine r_lload (pc := 118) dX12_bits_118 0 rfl ?_
        refine r_ldc2 (pc := 120) dX12_bits_120 clX12_873 ?_
        refine r_lor (pc := 123) dX12_bits_123 ?_
        refine r_goto (pc := 124) (tgt := 129) dX12_bits_124 rfl ?_
        cases h
        exact r_lret dX12_bits_129
def fX12_bits (σ : Shp) (I : Nat → Nat → Int32) (J : Nat → Nat → Int64) (t : Nat) (x1 : UInt64) : Option ((Nat → Nat → Int32) × (Nat → Nat → Int64) × (Int64)) :=
  if (Op.cmpValue (FP.dcmp x1 x1) .l) = 0 then
    (fX12_isMinus x1).bind fun r1 =>
    if r1 = 0 then
      fX12_bits_b25 σ t I J r1 x1
    else
      fX12_bits_b25 σ t I J r1 (FP.dneg x1)
  else
    some (I, J, (9221120237041090560 : Int64))
theorem kX12_bits {G : Gx} {l : Launch} {σ : Shp} {I : Nat → Nat → Int32} {J : Nat → Nat → Int64} {D : Nat → Nat → UInt64} {R : Nat → Nat → Option Nat} {t : Nat} {x1 : UInt64} {I9 : Nat → Nat → Int32} {J9 : Nat → Nat → Int64} {r9 : Int64} (h : fX12_bits σ I J t x1 = some (I9, J9, r9)) : Con G l yX12_bits cX12_bits 8 (some .long) 1 25 [vR (some t), vD x1] (σ, I, J, D, R) (σ, I9, J9, D, R) (some (vL r9)) := by
  unfold fX12_bits at h
  refine Con.mk (by decide +kernel) rfl (Nat.le_of_ble_eq_true rfl) ?_
  show WX12_bits G l σ (σ, I9, J9, D, R) (some (vL r9)) (σ, I, J, D, R) 0 _ []
  refine r_dload_n (pc := 0) dX12_bits_0 rfl 1 rfl ?_
  refine r_dload_n (pc := 1) dX12_bits_1 rfl 1 rfl ?_
  refine r_dcmp (pc := 2) dX12_bits_2 ?_
  refine r_if_eq (pc := 3) (tgt := 10) dX12_bits_3 rfl (fun c => ?_) (fun c => ?_)
  · have h := it h c
    refine r_dload_n (pc := 10) dX12_bits_10 rfl 1 rfl ?_
    obtain ⟨r1, hc2, h⟩ := ob h
    refine r_callS1 (pc := 11) (av := [vD x1]) (S := []) dX12_bits_11 (kX12_isMinus hc2) mkX12_715 mwX12_isMinus rfl ⟨Nat.le_of_ble_eq_true rfl, Nat.le_of_ble_eq_true rfl⟩ (Nat.le_of_ble_eq_true rfl) ⟨Nat.le_refl _, Nat.le_refl _⟩ (fun b => b) ?_
    refine r_istore_n (pc := 14) (L' := [(3, vI r1), (0, vR (some t)), (1, vD x1)]) dX12_bits_14 rfl (by decide) rfl ?_
    refine r_iload_n (pc := 15) dX12_bits_15 rfl 0 rfl ?_
    refine r_if_eq (pc := 16) (tgt := 24) dX12_bits_16 rfl (fun c => ?_) (fun c => ?_)
    · have h := it h c
      refine r_dload_n (pc := 24) dX12_bits_24 rfl 2 rfl ?_
      refine r_sub [1, 0] rfl ?_
      exact wX12_bits_b25 h
    · have h := ie h c
      refine r_dload_n (pc := 19) dX12_bits_19 rfl 2 rfl ?_
      refine r_dneg (pc := 20) dX12_bits_20 ?_
      refine r_goto (pc := 21) (tgt := 25) dX12_bits_21 rfl ?_
      refine r_sub [1, 0] rfl ?_
      exact wX12_bits_b25 h
  · have h := ie h c
    refine r_ldc2 (pc := 6) dX12_bits_6 clX12_172 ?_
    cases h
    exact r_lret dX12_bits_9
abbrev WX12_isEndless (G : Gx) (l : Launch) (σ0 : Shp) (X1 : Stt) (rv : Option SV) : Stt → Nat → List (Nat × SV) → List SV → Prop := Wm G l yX12_isEndless cX12_isEndless 2 (some .boolean) (fun _ => True) (rmx 0 0 σ0 X1.1) σ0 (Qmx G σ0 X1 rv)
def fX12_isEndless  (x0 : UInt64) : (Int32) :=
  if 0 < (Op.cmpValue (FP.dcmp x0 (9218868437227405311 : UInt64)) .l) then
    (1 : Int32)
  else
    if 0 ≤ (Op.cmpValue (FP.dcmp x0 (18442240474082181119 : UInt64)) .g) then
      (0 : Int32)
    else
      (1 : Int32)
theorem zX12_isEndless  (x0 : UInt64) : fX12_isEndless x0 = 0 ∨ fX12_isEndless x0 = 1 := by
  unfold fX12_isEndless
  repeat' (first | refine itz ?_ ?_ | exact Or.inl rfl | exact Or.inr rfl)
theorem kX12_isEndless {G : Gx} {l : Launch} {σ : Shp} {I : Nat → Nat → Int32} {J : Nat → Nat → Int64} {D : Nat → Nat → UInt64} {R : Nat → Nat → Option Nat} {x0 : UInt64} {r9 : Int32} (h : fX12_isEndless x0 = r9) : Con G l yX12_isEndless cX12_isEndless 2 (some .boolean) 0 0 [vD x0] (σ, I, J, D, R) (σ, I, J, D, R) (some (vI r9)) := by
  unfold fX12_isEndless at h
  refine Con.mk (by decide +kernel) rfl (Nat.le_of_ble_eq_true rfl) ?_
  show WX12_isEndless G l σ (σ, I, J, D, R) (some (vI r9)) (σ, I, J, D, R) 0 _ []
  refine r_dload_n (pc := 0) dX12_isEndless_0 rfl 0 rfl ?_
  refine r_ldc2d (pc := 1) dX12_isEndless_1 cdX12_831 ?_
  refine r_dcmp (pc := 4) dX12_isEndless_4 ?_
  refine r_ifgt (pc := 5) (tgt := 16) dX12_isEndless_5 rfl (fun c => ?_) (fun c => ?_)
  · have h := it h c
    refine r_iconst (pc := 16) dX12_isEndless_16 kc_iconst_1 ?_
    refine r_goto (pc := 17) (tgt := 21) dX12_isEndless_17 rfl ?_
    subst h
    exact r_zret dX12_isEndless_21 (Or.inr rfl)
  · have h := ie h c
    refine r_dload_n (pc := 8) dX12_isEndless_8 rfl 0 rfl ?_
    refine r_ldc2d (pc := 9) dX12_isEndless_9 cdX12_833 ?_
    refine r_dcmp (pc := 12) dX12_isEndless_12 ?_
    refine r_ifge (pc := 13) (tgt := 20) dX12_isEndless_13 rfl (fun c => ?_) (fun c => ?_)
    · have h := it h c
      refine r_iconst (pc := 20) dX12_isEndless_20 kc_iconst_0 ?_
      subst h
      exact r_zret dX12_isEndless_21 (Or.inl rfl)
    · have h := ie h c
      refine r_iconst (pc := 16) dX12_isEndless_16 kc_iconst_1 ?_
      refine r_goto (pc := 17) (tgt := 21) dX12_isEndless_17 rfl ?_
      subst h
      exact r_zret dX12_isEndless_21 (Or.inr rfl)
abbrev WX12_overReal (G : Gx) (l : Launch) (σ0 : Shp) (X1 : Stt) (rv : Option SV) : Stt → Nat → List (Nat × SV) → List SV → Prop := Wm G l yX12_overReal cX12_overReal 5 (some .double) (fun _ => True) (rmx 1 21 σ0 X1.1) σ0 (Qmx G σ0 X1 rv)
def fX12_overReal_b31  (x0 : UInt64) (x2 : UInt64) (s0 : Int32) : Option ((UInt64)) :=
  if (Op.cmpValue (FP.dcmp x0 x0) .l) = 0 then
    if (Op.cmpValue (FP.dcmp x2 x2) .l) = 0 then
      if s0 = 0 then
        if (FP.ddiv x0 x2) &&& 0x7fffffffffffffff ≤ 0x7ff0000000000000 then
        some (FP.ddiv x0 x2)
        else none
      else
        some (9221120237041090560 : UInt64)
    else
      some (9221120237041090560 : UInt64)
  else
    some (9221120237041090560 : UInt64)
theorem wX12_overReal_b31 {G : Gx} {l : Launch} {σ : Shp} {I : Nat → Nat → Int32} {J : Nat → Nat → Int64} {D : Nat → Nat → UInt64} {R : Nat → Nat → Option Nat} {r9 : UInt64} {x0 : UInt64} {x2 : UInt64} {s0 : Int32} (h : fX12_overReal_b31 x0 x2 s0 = some r9) : WX12_overReal G l σ (σ, I, J, D, R) (some (vD r9)) (σ, I, J, D, R) 31 [(0, vD x0), (2, vD x2)] [vI s0] := by
  unfold fX12_overReal_b31 at h
  refine r_istore (pc := 31) (L' := [(4, vI s0), (0, vD x0), (2, vD x2)]) dX12_overReal_31 (by decide) rfl ?_
  refine r_dload_n (pc := 33) dX12_overReal_33 rfl 1 rfl ?_
  refine r_dload_n (pc := 34) dX12_overReal_34 rfl 1 rfl ?_
  refine r_dcmp (pc := 35) dX12_overReal_35 ?_
  refine r_ifne (pc := 36) (tgt := 50) dX12_overReal_36 rfl (fun c => ?_) (fun c => ?_)
  · have h := ie h c
    refine r_ldc2d (pc := 50) dX12_overReal_50 cdX12_838 ?_
    refine r_goto (pc := 53) (tgt := 59) dX12_overReal_53 rfl ?_
    cases h
    exact r_dret dX12_overReal_59
  · have h := it h c
    refine r_dload_n (pc := 39) dX12_overReal_39 rfl 2 rfl ?_
    refine r_dload_n (pc := 40) dX12_overReal_40 rfl 2 rfl ?_
    refine r_dcmp (pc := 41) dX12_overReal_41 ?_
    refine r_ifne (pc := 42) (tgt := 50) dX12_overReal_42 rfl (fun c => ?_) (fun c => ?_)
    · have h := ie h c
      refine r_ldc2d (pc := 50) dX12_overReal_50 cdX12_838 ?_
      refine r_goto (pc := 53) (tgt := 59) dX12_overReal_53 rfl ?_
      cases h
      exact r_dret dX12_overReal_59
    · have h := it h c
      refine r_iload (pc := 45) dX12_overReal_45 0 rfl ?_
      refine r_if_eq (pc := 47) (tgt := 56) dX12_overReal_47 rfl (fun c => ?_) (fun c => ?_)
      · have h := it h c
        refine r_dload_n (pc := 56) dX12_overReal_56 rfl 1 rfl ?_
        refine r_dload_n (pc := 57) dX12_overReal_57 rfl 2 rfl ?_
        obtain ⟨g1, h⟩ := gd h
        refine r_ddiv (pc := 58) dX12_overReal_58 g1 ?_
        cases h
        exact r_dret dX12_overReal_59
      · have h := ie h c
        refine r_ldc2d (pc := 50) dX12_overReal_50 cdX12_838 ?_
        refine r_goto (pc := 53) (tgt := 59) dX12_overReal_53 rfl ?_
        cases h
        exact r_dret dX12_overReal_59
def fX12_overReal  (x0 : UInt64) (x2 : UInt64) : Option ((UInt64)) :=
  if (Op.cmpValue (FP.dcmp x0 (FP.dconst0)) .l) = 0 then
    if (Op.cmpValue (FP.dcmp x2 (FP.dconst0)) .l) = 0 then
      fX12_overReal_b31 x0 x2 (1 : Int32)
    else
      if (fX12_isEndless x0) = 0 then
        fX12_overReal_b31 x0 x2 (0 : Int32)
      else
        if (fX12_isEndless x2) = 0 then
          fX12_overReal_b31 x0 x2 (0 : Int32)
        else
          fX12_overReal_b31 x0 x2 (1 : Int32)
  else
    if (fX12_isEndless x0) = 0 then
      fX12_overReal_b31 x0 x2 (0 : Int32)
    else
      if (fX12_isEndless x2) = 0 then
        fX12_overReal_b31 x0 x2 (0 : Int32)
      else
        fX12_overReal_b31 x0 x2 (1 : Int32)
theorem kX12_overReal {G : Gx} {l : Launch} {σ : Shp} {I : Nat → Nat → Int32} {J : Nat → Nat → Int64} {D : Nat → Nat → UInt64} {R : Nat → Nat → Option Nat} {x0 : UInt64} {x2 : UInt64} {r9 : UInt64} (h : fX12_overReal x0 x2 = some r9) : Con G l yX12_overReal cX12_overReal 5 (some .double) 1 21 [vD x0, vD x2] (σ, I, J, D, R) (σ, I, J, D, R) (some (vD r9)) := by
  unfold fX12_overReal at h
  refine Con.mk (by decide +kernel) rfl (Nat.le_of_ble_eq_true rfl) ?_
  show WX12_overReal G l σ (σ, I, J, D, R) (some (vD r9)) (σ, I, J, D, R) 0 _ []
  refine r_dload_n (pc := 0) dX12_overReal_0 rfl 0 rfl ?_
  refine r_dconst0 (pc := 1) dX12_overReal_1 ?_
  refine r_dcmp (pc := 2) dX12_overReal_2 ?_
  refine r_ifne (pc := 3) (tgt := 12) dX12_overReal_3 rfl (fun c => ?_) (fun c => ?_)
  · have h := ie h c
    refine r_dload_n (pc := 12) dX12_overReal_12 rfl 0 rfl ?_
    refine r_callS1 (pc := 13) (av := [vD x0]) (S := []) dX12_overReal_13 (kX12_isEndless rfl) mkX12_835 mwX12_isEndless rfl ⟨Nat.le_of_ble_eq_true rfl, Nat.le_of_ble_eq_true rfl⟩ (Nat.le_of_ble_eq_true rfl) ⟨Nat.le_refl _, Nat.le_refl _⟩ (fun b => b) ?_
    refine r_if_eq (pc := 16) (tgt := 30) dX12_overReal_16 rfl (fun c => ?_) (fun c => ?_)
    · have h := it h c
      refine r_iconst (pc := 30) dX12_overReal_30 kc_iconst_0 ?_
      refine r_sub [0, 1] rfl ?_
      exact wX12_overReal_b31 h
    · have h := ie h c
      refine r_dload_n (pc := 19) dX12_overReal_19 rfl 1 rfl ?_
      refine r_callS1 (pc := 20) (av := [vD x2]) (S := []) dX12_overReal_20 (kX12_isEndless rfl) mkX12_835 mwX12_isEndless rfl ⟨Nat.le_of_ble_eq_true rfl, Nat.le_of_ble_eq_true rfl⟩ (Nat.le_of_ble_eq_true rfl) ⟨Nat.le_refl _, Nat.le_refl _⟩ (fun b => b) ?_
      refine r_if_eq (pc := 23) (tgt := 30) dX12_overReal_23 rfl (fun c => ?_) (fun c => ?_)
      · have h := it h c
        refine r_iconst (pc := 30) dX12_overReal_30 kc_iconst_0 ?_
        refine r_sub [0, 1] rfl ?_
        exact wX12_overReal_b31 h
      · have h := ie h c
        refine r_iconst (pc := 26) dX12_overReal_26 kc_iconst_1 ?_
        refine r_goto (pc := 27) (tgt := 31) dX12_overReal_27 rfl ?_
        refine r_sub [0, 1] rfl ?_
        exact wX12_overReal_b31 h
  · have h := it h c
    refine r_dload_n (pc := 6) dX12_overReal_6 rfl 1 rfl ?_
    refine r_dconst0 (pc := 7) dX12_overReal_7 ?_
    refine r_dcmp (pc := 8) dX12_overReal_8 ?_
    refine r_if_eq (pc := 9) (tgt := 26) dX12_overReal_9 rfl (fun c => ?_) (fun c => ?_)
    · have h := it h c
      refine r_iconst (pc := 26) dX12_overReal_26 kc_iconst_1 ?_
      refine r_goto (pc := 27) (tgt := 31) dX12_overReal_27 rfl ?_
      refine r_sub [0, 1] rfl ?_
      exact wX12_overReal_b31 h
    · have h := ie h c
      refine r_dload_n (pc := 12) dX12_overReal_12 rfl 0 rfl ?_
      refine r_callS1 (pc := 13) (av := [vD x0]) (S := []) dX12_overReal_13 (kX12_isEndless rfl) mkX12_835 mwX12_isEndless rfl ⟨Nat.le_of_ble_eq_true rfl, Nat.le_of_ble_eq_true rfl⟩ (Nat.le_of_ble_eq_true rfl) ⟨Nat.le_refl _, Nat.le_refl _⟩ (fun b => b) ?_
      refine r_if_eq (pc := 16) (tgt := 30) dX12_overReal_16 rfl (fun c => ?_) (fun c => ?_)
      · have h := it h c
        refine r_iconst (pc := 30) dX12_overReal_30 kc_iconst_0 ?_
        refine r_sub [0, 1] rfl ?_
        exact wX12_overReal_b31 h
      · have h := ie h c
        refine r_dload_n (pc := 19) dX12_overReal_19 rfl 1 rfl ?_
        refine r_callS1 (pc := 20) (av := [vD x2]) (S := []) dX12_overReal_20 (kX12_isEndless rfl) mkX12_835 mwX12_isEndless rfl ⟨Nat.le_of_ble_eq_true rfl, Nat.le_of_ble_eq_true rfl⟩ (Nat.le_of_ble_eq_true rfl) ⟨Nat.le_refl _, Nat.le_refl _⟩ (fun b => b) ?_
        refine r_if_eq (pc := 23) (tgt := 30) dX12_overReal_23 rfl (fun c => ?_) (fun c => ?_)
        · have h := it h c
          refine r_iconst (pc := 30) dX12_overReal_30 kc_iconst_0 ?_
          refine r_sub [0, 1] rfl ?_
          exact wX12_overReal_b31 h
        · have h := ie h c
          refine r_iconst (pc := 26) dX12_overReal_26 kc_iconst_1 ?_
          refine r_goto (pc := 27) (tgt := 31) dX12_overReal_27 rfl ?_
          refine r_sub [0, 1] rfl ?_
          exact wX12_overReal_b31 h
abbrev WX12_plusReal (G : Gx) (l : Launch) (σ0 : Shp) (X1 : Stt) (rv : Option SV) : Stt → Nat → List (Nat × SV) → List SV → Prop := Wm G l yX12_plusReal cX12_plusReal 5 (some .double) (fun _ => True) (rmx 1 21 σ0 X1.1) σ0 (Qmx G σ0 X1 rv)
def fX12_plusReal_b44  (x0 : UInt64) (x2 : UInt64) (s0 : Int32) : Option ((UInt64)) :=
  if (Op.cmpValue (FP.dcmp x0 x0) .l) = 0 then
    if (Op.cmpValue (FP.dcmp x2 x2) .l) = 0 then
      if s0 = 0 then
        if (FP.dadd x0 x2) &&& 0x7fffffffffffffff ≤ 0x7ff0000000000000 then
        some (FP.dadd x0 x2)
        else none
      else
        some (9221120237041090560 : UInt64)
    else
      some (9221120237041090560 : UInt64)
  else
    some (9221120237041090560 : UInt64)
theorem wX12_plusReal_b44 {G : Gx} {l : Launch} {σ : Shp} {I : Nat → Nat → Int32} {J : Nat → Nat → Int64} {D : Nat → Nat → UInt64} {R : Nat → Nat → Option Nat} {r9 : UInt64} {x0 : UInt64} {x2 : UInt64} {s0 : Int32} (h : fX12_plusReal_b44 x0 x2 s0 = some r9) : WX12_plusReal G l σ (σ, I, J, D, R) (some (vD r9)) (σ, I, J, D, R) 44 [(0, vD x0), (2, vD x2)] [vI s0] := by
  unfold fX12_plusReal_b44 at h
  refine r_istore (pc := 44) (L' := [(4, vI s0), (0, vD x0), (2, vD x2)]) dX12_plusReal_44 (by decide) rfl ?_
  refine r_dload_n (pc := 46) dX12_plusReal_46 rfl 1 rfl ?_
  refine r_dload_n (pc := 47) dX12_plusReal_47 rfl 1 rfl ?_
  refine r_dcmp (pc := 48) dX12_plusReal_48 ?_
  refine r_ifne (pc := 49) (tgt := 63) dX12_plusReal_49 rfl (fun c => ?_) (fun c => ?_)
  · have h := ie h c
    refine r_ldc2d (pc := 63) dX12_plusReal_63 cdX12_838 ?_
    refine r_goto (pc := 66) (tgt := 72) dX12_plusReal_66 rfl ?_
    cases h
    exact r_dret dX12_plusReal_72
  · have h := it h c
    refine r_dload_n (pc := 52) dX12_plusReal_52 rfl 2 rfl ?_
    refine r_dload_n (pc := 53) dX12_plusReal_53 rfl 2 rfl ?_
    refine r_dcmp (pc := 54) dX12_plusReal_54 ?_
    refine r_ifne (pc := 55) (tgt := 63) dX12_plusReal_55 rfl (fun c => ?_) (fun c => ?_)
    · have h := ie h c
      refine r_ldc2d (pc := 63) dX12_plusReal_63 cdX12_838 ?_
      refine r_goto (pc := 66) (tgt := 72) dX12_plusReal_66 rfl ?_
      cases h
      exact r_dret dX12_plusReal_72
    · have h := it h c
      refine r_iload (pc := 58) dX12_plusReal_58 0 rfl ?_
      refine r_if_eq (pc := 60) (tgt := 69) dX12_plusReal_60 rfl (fun c => ?_) (fun c => ?_)
      · have h := it h c
        refine r_dload_n (pc := 69) dX12_plusReal_69 rfl 1 rfl ?_
        refine r_dload_n (pc := 70) dX12_plusReal_70 rfl 2 rfl ?_
        obtain ⟨g1, h⟩ := gd h
        refine r_dadd (pc := 71) dX12_plusReal_71 g1 ?_
        cases h
        exact r_dret dX12_plusReal_72
      · have h := ie h c
        refine r_ldc2d (pc := 63) dX12_plusReal_63 cdX12_838 ?_
        refine r_goto (pc := 66) (tgt := 72) dX12_plusReal_66 rfl ?_
        cases h
        exact r_dret dX12_plusReal_72
def fX12_plusReal_b25  (x0 : UInt64) (x2 : UInt64) (s0 : Int32) : Option ((UInt64)) :=
  if (Op.cmpValue (FP.dcmp x2 (FP.dconst0)) .l) ≤ 0 then
    if s0 = (0 : Int32) then
      fX12_plusReal_b44 x0 x2 (0 : Int32)
    else
      fX12_plusReal_b44 x0 x2 (1 : Int32)
  else
    if s0 = (1 : Int32) then
      fX12_plusReal_b44 x0 x2 (0 : Int32)
    else
      fX12_plusReal_b44 x0 x2 (1 : Int32)
theorem wX12_plusReal_b25 {G : Gx} {l : Launch} {σ : Shp} {I : Nat → Nat → Int32} {J : Nat → Nat → Int64} {D : Nat → Nat → UInt64} {R : Nat → Nat → Option Nat} {r9 : UInt64} {x0 : UInt64} {x2 : UInt64} {s0 : Int32} (h : fX12_plusReal_b25 x0 x2 s0 = some r9) : WX12_plusReal G l σ (σ, I, J, D, R) (some (vD r9)) (σ, I, J, D, R) 25 [(0, vD x0), (2, vD x2)] [vI s0] := by
  unfold fX12_plusReal_b25 at h
  refine r_dload_n (pc := 25) dX12_plusReal_25 rfl 1 rfl ?_
  refine r_dconst0 (pc := 26) dX12_plusReal_26 ?_
  refine r_dcmp (pc := 27) dX12_plusReal_27 ?_
  refine r_if_le (pc := 28) (tgt := 35) dX12_plusReal_28 rfl (fun c => ?_) (fun c => ?_)
  · have h := it h c
    refine r_iconst (pc := 35) dX12_plusReal_35 kc_iconst_0 ?_
    refine r_icmp_eq (pc := 36) (tgt := 43) dX12_plusReal_36 rfl (fun c => ?_) (fun c => ?_)
    · have h := it h c
      refine r_iconst (pc := 43) dX12_plusReal_43 kc_iconst_0 ?_
      refine r_sub [0, 1] rfl ?_
      exact wX12_plusReal_b44 h
    · have h := ie h c
      refine r_iconst (pc := 39) dX12_plusReal_39 kc_iconst_1 ?_
      refine r_goto (pc := 40) (tgt := 44) dX12_plusReal_40 rfl ?_
      refine r_sub [0, 1] rfl ?_
      exact wX12_plusReal_b44 h
  · have h := ie h c
    refine r_iconst (pc := 31) dX12_plusReal_31 kc_iconst_1 ?_
    refine r_goto (pc := 32) (tgt := 36) dX12_plusReal_32 rfl ?_
    refine r_icmp_eq (pc := 36) (tgt := 43) dX12_plusReal_36 rfl (fun c => ?_) (fun c => ?_)
    · have h := it h c
      refine r_iconst (pc := 43) dX12_plusReal_43 kc_iconst_0 ?_
      refine r_sub [0, 1] rfl ?_
      exact wX12_plusReal_b44 h
    · have h := ie h c
      refine r_iconst (pc := 39) dX12_plusReal_39 kc_iconst_1 ?_
      refine r_goto (pc := 40) (tgt := 44) dX12_plusReal_40 rfl ?_
      refine r_sub [0, 1] rfl ?_
      exact wX12_plusReal_b44 h
def fX12_plusReal  (x0 : UInt64) (x2 : UInt64) : Option ((UInt64)) :=
  if (fX12_isEndless x0) = 0 then
    fX12_plusReal_b44 x0 x2 (0 : Int32)
  else
    if (fX12_isEndless x2) = 0 then
      fX12_plusReal_b44 x0 x2 (0 : Int32)
    else
      if (Op.cmpValue (FP.dcmp x0 (FP.dconst0)) .l) ≤ 0 then
        fX12_plusReal_b25 x0 x2 (0 : Int32)
      else
        fX12_plusReal_b25 x0 x2 (1 : Int32)
theorem kX12_plusReal {G : Gx} {l : Launch} {σ : Shp} {I : Nat → Nat → Int32} {J : Nat → Nat → Int64} {D : Nat → Nat → UInt64} {R : Nat → Nat → Option Nat} {x0 : UInt64} {x2 : UInt64} {r9 : UInt64} (h : fX12_plusReal x0 x2 = some r9) : Con G l yX12_plusReal cX12_plusReal 5 (some .double) 1 21 [vD x0, vD x2] (σ, I, J, D, R) (σ, I, J, D, R) (some (vD r9)) := by
  unfold fX12_plusReal at h
  refine Con.mk (by decide +kernel) rfl (Nat.le_of_ble_eq_true rfl) ?_
  show WX12_plusReal G l σ (σ, I, J, D, R) (some (vD r9)) (σ, I, J, D, R) 0 _ []
  refine r_dload_n (pc := 0) dX12_plusReal_0 rfl 0 rfl ?_
  refine r_callS1 (pc := 1) (av := [vD x0]) (S := []) dX12_plusReal_1 (kX12_isEndless rfl) mkX12_835 mwX12_isEndless rfl ⟨Nat.le_of_ble_eq_true rfl, Nat.le_of_ble_eq_true rfl⟩ (Nat.le_of_ble_eq_true rfl) ⟨Nat.le_refl _, Nat.le_refl _⟩ (fun b => b) ?_
  refine r_if_eq (pc := 4) (tgt := 43) dX12_plusReal_4 rfl (fun c => ?_) (fun c => ?_)
  · have h := it h c
    refine r_iconst (pc := 43) dX12_plusReal_43 kc_iconst_0 ?_
    refine r_sub [0, 1] rfl ?_
    exact wX12_plusReal_b44 h
  · have h := ie h c
    refine r_dload_n (pc := 7) dX12_plusReal_7 rfl 1 rfl ?_
    refine r_callS1 (pc := 8) (av := [vD x2]) (S := []) dX12_plusReal_8 (kX12_isEndless rfl) mkX12_835 mwX12_isEndless rfl ⟨Nat.le_of_ble_eq_true rfl, Nat.le_of_ble_eq_true rfl⟩ (Nat.le_of_ble_eq_true rfl) ⟨Nat.le_refl _, Nat.le_refl _⟩ (fun b => b) ?_
    refine r_if_eq (pc := 11) (tgt := 43) dX12_plusReal_11 rfl (fun c => ?_) (fun c => ?_)
    · have h := it h c
      refine r_iconst (pc := 43) dX12_plusReal_43 kc_iconst_0 ?_
      refine r_sub [0, 1] rfl ?_
      exact wX12_plusReal_b44 h
    · have h := ie h c
      refine r_dload_n (pc := 14) dX12_plusReal_14 rfl 0 rfl ?_
      refine r_dconst0 (pc := 15) dX12_plusReal_15 ?_
      refine r_dcmp (pc := 16) dX12_plusReal_16 ?_
      refine r_if_le (pc := 17) (tgt := 24) dX12_plusReal_17 rfl (fun c => ?_) (fun c => ?_)
      · have h := it h c
        refine r_iconst (pc := 24) dX12_plusReal_24 kc_iconst_0 ?_
        refine r_sub [0, 1] rfl ?_
        exact wX12_plusReal_b25 h
      · have h := ie h c
        refine r_iconst (pc := 20) dX12_plusReal_20 kc_iconst_1 ?_
        refine r_goto (pc := 21) (tgt := 25) dX12_plusReal_21 rfl ?_
        refine r_sub [0, 1] rfl ?_
        exact wX12_plusReal_b25 h
abbrev WX12_real (G : Gx) (l : Launch) (σ0 : Shp) (X1 : Stt) (rv : Option SV) : Stt → Nat → List (Nat × SV) → List SV → Prop := Wm G l yX12_real cX12_real 12 (some .long) (fun _ => True) (rmx 4 97 σ0 X1.1) σ0 (Qmx G σ0 X1 rv)
def fX12_real_l131 (q77 : (Nat → Nat → Int32) → (Nat → Nat → Int64) → (Nat → Nat → UInt64) → (Int32) → (Int32) → (Int32) → (Int32) → (UInt64) → (Int32) → (Option ((Nat → Nat → Int32) × (Nat → Nat → Int64) × (Nat → Nat → UInt64) × (Int64)))) (σ : Shp) (R : Nat → Nat → Option Nat) (t : Nat) : Nat → (Nat → Nat → Int32) → (Nat → Nat → Int64) → (Nat → Nat → UInt64) → (Int32) → (Int32) → (Int32) → (Int32) → (UInt64) → (Int32) → (UInt64) → (Int32) → Option ((Nat → Nat → Int32) × (Nat → Nat → Int64) × (Nat → Nat → UInt64) × (Int64))
  | 0, _, _, _, _, _, _, _, _, _, _, _ => none
  | n + 1, I, J, D, x1, x3, x4, x5, x6, x8, x9, x11 =>
    if x11 ≤ 0 then
      if kdx σ t = 13 then
      ((R t 109) : Option Nat).bind fun a59 =>
      if kdx σ a59 = 25 then
      if ¬ (x11 < 0 ∨ lnx σ a59 ≤ Int32.toNatClampNeg x11) then
      let D62 := u2 D a59 (Int32.toNatClampNeg x11) x9
      let v63 := x5 + (1 : Int32)
      let v64 := x8 + (1 : Int32)
      q77 I J D62 x1 x3 x4 v63 x6 v64
      else none
      else none
      else none
    else
      if kdx σ t = 13 then
      ((R t 109) : Option Nat).bind fun a66 =>
      if kdx σ a66 = 25 then
      if ¬ ((x11 - (1 : Int32)) < 0 ∨ lnx σ a66 ≤ Int32.toNatClampNeg (x11 - (1 : Int32))) then
      (fX12_isLess x9 (D a66 (Int32.toNatClampNeg (x11 - (1 : Int32))))).bind fun r69 =>
      if r69 = 0 then
        if ¬ (x11 < 0 ∨ lnx σ a66 ≤ Int32.toNatClampNeg x11) then
        let D72 := u2 D a66 (Int32.toNatClampNeg x11) x9
        let v73 := x5 + (1 : Int32)
        let v74 := x8 + (1 : Int32)
        q77 I J D72 x1 x3 x4 v73 x6 v74
        else none
      else
        if ¬ (x11 < 0 ∨ lnx σ a66 ≤ Int32.toNatClampNeg x11) then
        let D76 := u2 D a66 (Int32.toNatClampNeg x11) (D a66 (Int32.toNatClampNeg (x11 - (1 : Int32))))
        let v77 := x11 + (-1 : Int32)
        fX12_real_l131 q77 σ R t n I J D76 x1 x3 x4 x5 x6 x8 x9 v77
        else none
      else none
      else none
      else none
theorem wX12_real_l131 {G : Gx} {l : Launch} {σ : Shp} {R : Nat → Nat → Option Nat} {t : Nat} {I9 : Nat → Nat → Int32} {J9 : Nat → Nat → Int64} {D9 : Nat → Nat → UInt64} {r9 : Int64} {q77 : (Nat → Nat → Int32) → (Nat → Nat → Int64) → (Nat → Nat → UInt64) → (Int32) → (Int32) → (Int32) → (Int32) → (UInt64) → (Int32) → (Option ((Nat → Nat → Int32) × (Nat → Nat → Int64) × (Nat → Nat → UInt64) × (Int64)))} (hq77 : ∀ (I : Nat → Nat → Int32) (J : Nat → Nat → Int64) (D : Nat → Nat → UInt64) (x1 : Int32) (x3 : Int32) (x4 : Int32) (x5 : Int32) (x6 : UInt64) (x8 : Int32), q77 I J D x1 x3 x4 x5 x6 x8 = some (I9, J9, D9, r9) → WX12_real G l σ (σ, I9, J9, D9, R) (some (vL r9)) (σ, I, J, D, R) 77 [(0, vR (some t)), (1, vI x1), (3, vI x3), (4, vI x4), (5, vI x5), (6, vD x6), (8, vI x8)] []) : ∀ (n : Nat) (I : Nat → Nat → Int32) (J : Nat → Nat → Int64) (D : Nat → Nat → UInt64) (x1 : Int32) (x3 : Int32) (x4 : Int32) (x5 : Int32) (x6 : UInt64) (x8 : Int32) (x9 : UInt64) (x11 : Int32), fX12_real_l131 q77 σ R t n I J D x1 x3 x4 x5 x6 x8 x9 x11 = some (I9, J9, D9, r9) → WX12_real G l σ (σ, I9, J9, D9, R) (some (vL r9)) (σ, I, J, D, R) 131 [(0, vR (some t)), (1, vI x1), (3, vI x3), (4, vI x4), (5, vI x5), (6, vD x6), (8, vI x8), (9, vD x9), (11, vI x11)] [] := by
  intro n
  induction n with
  | zero =>
    intro I J D x1 x3 x4 x5 x6 x8 x9 x11 h
    have h : none = some _ := h
    cases h
  | succ n ih =>
    intro I J D x1 x3 x4 x5 x6 x8 x9 x11 h
    rw [fX12_real_l131] at h
    refine r_iload (pc := 131) dX12_real_131 8 rfl ?_
    refine r_if_le (pc := 133) (tgt := 175) dX12_real_133 rfl (fun c => ?_) (fun c => ?_)
    · have h := it h c
      refine r_aload_n (pc := 175) dX12_real_175 rfl 0 rfl ?_
      obtain ⟨g58, h⟩ := gd h
      obtain ⟨a59, ha59, h⟩ := ob h
      refine r_getS (pc := 176) dX12_real_176 fgX12_250 rfl g58 ha59 ?_
      refine r_iload (pc := 179) dX12_real_179 8 rfl ?_
      refine r_dload (pc := 181) dX12_real_181 7 rfl ?_
      obtain ⟨g60, h⟩ := gd h
      obtain ⟨g61, h⟩ := gd h
      refine r_dastore (pc := 183) dX12_real_183 g60 g61 ?_
      refine r_iinc (pc := 184) (v := (x5 + (1 : Int32))) (L' := [(5, vI (x5 + (1 : Int32))), (0, vR (some t)), (1, vI x1), (3, vI x3), (4, vI x4), (6, vD x6), (8, vI x8), (9, vD x9), (11, vI x11)]) dX12_real_184 4 rfl (kc_inc_1 _) (by decide) rfl ?_
      refine r_iinc (pc := 187) (v := (x8 + (1 : Int32))) (L' := [(8, vI (x8 + (1 : Int32))), (5, vI (x5 + (1 : Int32))), (0, vR (some t)), (1, vI x1), (3, vI x3), (4, vI x4), (6, vD x6), (9, vD x9), (11, vI x11)]) dX12_real_187 6 rfl (kc_inc_1 _) (by decide) rfl ?_
      refine r_goto (pc := 190) (tgt := 77) dX12_real_190 rfl ?_
      refine r_sub [2, 3, 4, 5, 1, 6, 0] rfl ?_
      exact hq77 _ _ _ _ _ _ _ _ _ h
    · have h := ie h c
      refine r_dload (pc := 136) dX12_real_136 7 rfl ?_
      refine r_aload_n (pc := 138) dX12_real_138 rfl 0 rfl ?_
      obtain ⟨g65, h⟩ := gd h
      obtain ⟨a66, ha66, h⟩ := ob h
      refine r_getS (pc := 139) dX12_real_139 fgX12_250 rfl g65 ha66 ?_
      refine r_iload (pc := 142) dX12_real_142 8 rfl ?_
      refine r_iconst (pc := 144) dX12_real_144 kc_iconst_1 ?_
      refine r_isub (pc := 145) dX12_real_145 ?_
      obtain ⟨g67, h⟩ := gd h
      obtain ⟨g68, h⟩ := gd h
      refine r_daload (pc := 146) dX12_real_146 g67 g68 ?_
      obtain ⟨r69, hc70, h⟩ := ob h
      refine r_callS1 (pc := 147) (av := [vD x9, vD (D a66 (Int32.toNatClampNeg (x11 - (1 : Int32))))]) (S := []) dX12_real_147 (kX12_isLess hc70) mkX12_723 mwX12_isLess rfl ⟨Nat.le_of_ble_eq_true rfl, Nat.le_of_ble_eq_true rfl⟩ (Nat.le_of_ble_eq_true rfl) ⟨Nat.le_refl _, Nat.le_refl _⟩ (fun b => b) ?_
      refine r_if_eq (pc := 150) (tgt := 175) dX12_real_150 rfl (fun c => ?_) (fun c => ?_)
      · have h := it h c
        refine r_aload_n (pc := 175) dX12_real_175 rfl 0 rfl ?_
        refine r_getS (pc := 176) dX12_real_176 fgX12_250 rfl g65 ha66 ?_
        refine r_iload (pc := 179) dX12_real_179 8 rfl ?_
        refine r_dload (pc := 181) dX12_real_181 7 rfl ?_
        obtain ⟨g71, h⟩ := gd h
        refine r_dastore (pc := 183) dX12_real_183 g67 g71 ?_
        refine r_iinc (pc := 184) (v := (x5 + (1 : Int32))) (L' := [(5, vI (x5 + (1 : Int32))), (0, vR (some t)), (1, vI x1), (3, vI x3), (4, vI x4), (6, vD x6), (8, vI x8), (9, vD x9), (11, vI x11)]) dX12_real_184 4 rfl (kc_inc_1 _) (by decide) rfl ?_
        refine r_iinc (pc := 187) (v := (x8 + (1 : Int32))) (L' := [(8, vI (x8 + (1 : Int32))), (5, vI (x5 + (1 : Int32))), (0, vR (some t)), (1, vI x1), (3, vI x3), (4, vI x4), (6, vD x6), (9, vD x9), (11, vI x11)]) dX12_real_187 6 rfl (kc_inc_1 _) (by decide) rfl ?_
        refine r_goto (pc := 190) (tgt := 77) dX12_real_190 rfl ?_
        refine r_sub [2, 3, 4, 5, 1, 6, 0] rfl ?_
        exact hq77 _ _ _ _ _ _ _ _ _ h
      · have h := ie h c
        refine r_aload_n (pc := 153) dX12_real_153 rfl 0 rfl ?_
        refine r_getS (pc := 154) dX12_real_154 fgX12_250 rfl g65 ha66 ?_
        refine r_iload (pc := 157) dX12_real_157 8 rfl ?_
        refine r_aload_n (pc := 159) dX12_real_159 rfl 0 rfl ?_
        refine r_getS (pc := 160) dX12_real_160 fgX12_250 rfl g65 ha66 ?_
        refine r_iload (pc := 163) dX12_real_163 8 rfl ?_
        refine r_iconst (pc := 165) dX12_real_165 kc_iconst_1 ?_
        refine r_isub (pc := 166) dX12_real_166 ?_
        refine r_daload (pc := 167) dX12_real_167 g67 g68 ?_
        obtain ⟨g75, h⟩ := gd h
        refine r_dastore (pc := 168) dX12_real_168 g67 g75 ?_
        refine r_iinc (pc := 169) (v := (x11 + (-1 : Int32))) (L' := [(11, vI (x11 + (-1 : Int32))), (0, vR (some t)), (1, vI x1), (3, vI x3), (4, vI x4), (5, vI x5), (6, vD x6), (8, vI x8), (9, vD x9)]) dX12_real_169 8 rfl (kc_inc_m1 _) (by decide) rfl ?_
        refine r_goto (pc := 172) (tgt := 131) dX12_real_172 rfl ?_
        refine r_sub [1, 2, 3, 4, 5, 6, 7, 8, 0] rfl ?_
        exact ih _ _ _ _ _ _ _ _ _ _ _ h
def fX12_real_l77  (σ : Shp) (R : Nat → Nat → Option Nat) (t : Nat) : Nat → (Nat → Nat → Int32) → (Nat → Nat → Int64) → (Nat → Nat → UInt64) → (Int32) → (Int32) → (Int32) → (Int32) → (UInt64) → (Int32) → Option ((Nat → Nat → Int32) × (Nat → Nat → Int64) × (Nat → Nat → UInt64) × (Int64))
  | 0, _, _, _, _, _, _, _, _, _ => none
  | n + 1, I, J, D, x1, x3, x4, x5, x6, x8 =>
    if kdx σ t = 13 then
    ((R t 5) : Option Nat).bind fun a17 =>
    if kdx σ a17 = 22 then
    if ¬ (x4 < 0 ∨ lnx σ a17 ≤ Int32.toNatClampNeg x4) then
    if (I a17 (Int32.toNatClampNeg x4)) ≤ x8 then
      if x5 = 0 then
        some (I, J, D, (9221120237041090560 : Int64))
      else
        if x3 = 0 then
          ((R t 109) : Option Nat).bind fun a40 =>
          if kdx σ a40 = 25 then
          if ¬ ((0 : Int32) < 0 ∨ lnx σ a40 ≤ Int32.toNatClampNeg (0 : Int32)) then
          (fX12_bits σ I J t (D a40 (Int32.toNatClampNeg (0 : Int32)))).bind fun (I43, J44, r45) =>
          some (I43, J44, D, r45)
          else none
          else none
        else
          if x3 = (1 : Int32) then
            ((R t 109) : Option Nat).bind fun a33 =>
            if kdx σ a33 = 25 then
            if ¬ ((x5 - (1 : Int32)) < 0 ∨ lnx σ a33 ≤ Int32.toNatClampNeg (x5 - (1 : Int32))) then
            (fX12_bits σ I J t (D a33 (Int32.toNatClampNeg (x5 - (1 : Int32))))).bind fun (I36, J37, r38) =>
            some (I36, J37, D, r38)
            else none
            else none
          else
            if x3 = (2 : Int32) then
              (fX12_overReal x6 (FP.i2d x5)).bind fun r27 =>
              (fX12_bits σ I J t r27).bind fun (I29, J30, r31) =>
              some (I29, J30, D, r31)
            else
              ((R t 109) : Option Nat).bind fun a20 =>
              if kdx σ a20 = 25 then
              if ¬ (((x5 - (1 : Int32)) / (2 : Int32)) < 0 ∨ lnx σ a20 ≤ Int32.toNatClampNeg ((x5 - (1 : Int32)) / (2 : Int32))) then
              (fX12_bits σ I J t (D a20 (Int32.toNatClampNeg ((x5 - (1 : Int32)) / (2 : Int32))))).bind fun (I23, J24, r25) =>
              some (I23, J24, D, r25)
              else none
              else none
    else
      ((R t 8) : Option Nat).bind fun a47 =>
      ((R t 6) : Option Nat).bind fun a48 =>
      if kdx σ a48 = 20 then
      if ¬ (x4 < 0 ∨ lnx σ a48 ≤ Int32.toNatClampNeg x4) then
      if kdx σ a47 = 21 then
      if ¬ (((I a48 (Int32.toNatClampNeg x4)) + x8) < 0 ∨ lnx σ a47 ≤ Int32.toNatClampNeg ((I a48 (Int32.toNatClampNeg x4)) + x8)) then
      (fX12_realOf x1 (J a47 (Int32.toNatClampNeg ((I a48 (Int32.toNatClampNeg x4)) + x8)))).bind fun r53 =>
      if (Op.cmpValue (FP.dcmp r53 r53) .l) = 0 then
        (fX12_plusReal x6 r53).bind fun r56 =>
        fX12_real_l131 (fX12_real_l77 σ R t n) σ R t FUx I J D x1 x3 x4 x5 r56 x8 r53 x5
      else
        let v55 := x8 + (1 : Int32)
        fX12_real_l77 σ R t n I J D x1 x3 x4 x5 x6 v55
      else none
      else none
      else none
      else none
    else none
    else none
    else none
theorem wX12_real_l77 {G : Gx} {l : Launch} {σ : Shp} {R : Nat → Nat → Option Nat} {t : Nat} {I9 : Nat → Nat → Int32} {J9 : Nat → Nat → Int64} {D9 : Nat → Nat → UInt64} {r9 : Int64} : ∀ (n : Nat) (I : Nat → Nat → Int32) (J : Nat → Nat → Int64) (D : Nat → Nat → UInt64) (x1 : Int32) (x3 : Int32) (x4 : Int32) (x5 : Int32) (x6 : UInt64) (x8 : Int32), fX12_real_l77 σ R t n I J D x1 x3 x4 x5 x6 x8 = some (I9, J9, D9, r9) → WX12_real G l σ (σ, I9, J9, D9, R) (some (vL r9)) (σ, I, J, D, R) 77 [(0, vR (some t)), (1, vI x1), (3, vI x3), (4, vI x4), (5, vI x5), (6, vD x6), (8, vI x8)] [] := by
  intro n
  induction n with
  | zero =>
    intro I J D x1 x3 x4 x5 x6 x8 h
    have h : none = some _ := h
    cases h
  | succ n ih =>
    intro I J D x1 x3 x4 x5 x6 x8 h
    rw [fX12_real_l77] at h
    refine r_iload (pc := 77) dX12_real_77 6 rfl ?_
    refine r_aload_n (pc := 79) dX12_real_79 rfl 0 rfl ?_
    obtain ⟨g16, h⟩ := gd h
    obtain ⟨a17, ha17, h⟩ := ob h
    refine r_getS (pc := 80) dX12_real_80 fgX12_19 rfl g16 ha17 ?_
    refine r_iload (pc := 83) dX12_real_83 3 rfl ?_
    obtain ⟨g18, h⟩ := gd h
    obtain ⟨g19, h⟩ := gd h
    refine r_baload (pc := 85) dX12_real_85 g18 g19 ?_
    refine r_icmp_ge (pc := 86) (tgt := 193) dX12_real_86 rfl (fun c => ?_) (fun c => ?_)
    · have h := it h c
      refine r_iload (pc := 193) dX12_real_193 4 rfl ?_
      refine r_ifne (pc := 195) (tgt := 202) dX12_real_195 rfl (fun c => ?_) (fun c => ?_)
      · have h := ie h c
        refine r_aload_n (pc := 202) dX12_real_202 rfl 0 rfl ?_
        refine r_iload_n (pc := 203) dX12_real_203 rfl 2 rfl ?_
        refine r_ifne (pc := 204) (tgt := 216) dX12_real_204 rfl (fun c => ?_) (fun c => ?_)
        · have h := ie h c
          refine r_iload_n (pc := 216) dX12_real_216 rfl 2 rfl ?_
          refine r_iconst (pc := 217) dX12_real_217 kc_iconst_1 ?_
          refine r_icmp_ne (pc := 218) (tgt := 233) dX12_real_218 rfl (fun c => ?_) (fun c => ?_)
          · have h := ie h c
            refine r_iload_n (pc := 233) dX12_real_233 rfl 2 rfl ?_
            refine r_iconst (pc := 234) dX12_real_234 kc_iconst_2 ?_
            refine r_icmp_ne (pc := 235) (tgt := 249) dX12_real_235 rfl (fun c => ?_) (fun c => ?_)
            · have h := ie h c
              refine r_aload_n (pc := 249) dX12_real_249 rfl 0 rfl ?_
              obtain ⟨a20, ha20, h⟩ := ob h
              refine r_getS (pc := 250) dX12_real_250 fgX12_250 rfl g16 ha20 ?_
              refine r_iload (pc := 253) dX12_real_253 4 rfl ?_
              refine r_iconst (pc := 255) dX12_real_255 kc_iconst_1 ?_
              refine r_isub (pc := 256) dX12_real_256 ?_
              refine r_iconst (pc := 257) dX12_real_257 kc_iconst_2 ?_
              refine r_idiv (pc := 258) dX12_real_258 (by decide) ?_
              obtain ⟨g21, h⟩ := gd h
              obtain ⟨g22, h⟩ := gd h
              refine r_daload (pc := 259) dX12_real_259 g21 g22 ?_
              obtain ⟨⟨I23, J24, r25⟩, hc26, h⟩ := ob h
              refine r_callV1 (pc := 260) (av := [vD (D a20 (Int32.toNatClampNeg ((x5 - (1 : Int32)) / (2 : Int32))))]) (S := []) dX12_real_260 (kX12_bits hc26) g16 rfl mkX12_730 mwX12_bits rfl ⟨Nat.le_of_ble_eq_true rfl, Nat.le_of_ble_eq_true rfl⟩ (Nat.le_of_ble_eq_true rfl) ⟨Nat.le_refl _, Nat.le_refl _⟩ (fun b => b) ?_
              cases h
              exact r_lret dX12_real_263
            · have h := it h c
              refine r_dload (pc := 238) dX12_real_238 5 rfl ?_
              refine r_iload (pc := 240) dX12_real_240 4 rfl ?_
              refine r_i2d (pc := 242) dX12_real_242 ?_
              obtain ⟨r27, hc28, h⟩ := ob h
              refine r_callS1 (pc := 243) (av := [vD x6, vD (FP.i2d x5)]) (S := [vR (some t)]) dX12_real_243 (kX12_overReal hc28) mkX12_727 mwX12_overReal rfl ⟨Nat.le_of_ble_eq_true rfl, Nat.le_of_ble_eq_true rfl⟩ (Nat.le_of_ble_eq_true rfl) ⟨Nat.le_refl _, Nat.le_refl _⟩ (fun b => b) ?_
              refine r_goto (pc := 246) (tgt := 260) dX12_real_246 rfl ?_
              obtain ⟨⟨I29, J30, r31⟩, hc32, h⟩ := ob h
              refine r_callV1 (pc := 260) (av := [vD r27]) (S := []) dX12_real_260 (kX12_bits hc32) g16 rfl mkX12_730 mwX12_bits rfl ⟨Nat.le_of_ble_eq_true rfl, Nat.le_of_ble_eq_true rfl⟩ (Nat.le_of_ble_eq_true rfl) ⟨Nat.le_refl _, Nat.le_refl _⟩ (fun b => b) ?_
              cases h
              exact r_lret dX12_real_263
          · have h := it h c
            refine r_aload_n (pc := 221) dX12_real_221 rfl 0 rfl ?_
            obtain ⟨a33, ha33, h⟩ := ob h
            refine r_getS (pc := 222) dX12_real_222 fgX12_250 rfl g16 ha33 ?_
            refine r_iload (pc := 225) dX12_real_225 4 rfl ?_
            refine r_iconst (pc := 227) dX12_real_227 kc_iconst_1 ?_
            refine r_isub (pc := 228) dX12_real_228 ?_
            obtain ⟨g34, h⟩ := gd h
            obtain ⟨g35, h⟩ := gd h
            refine r_daload (pc := 229) dX12_real_229 g34 g35 ?_
            refine r_goto (pc := 230) (tgt := 260) dX12_real_230 rfl ?_
            obtain ⟨⟨I36, J37, r38⟩, hc39, h⟩ := ob h
            refine r_callV1 (pc := 260) (av := [vD (D a33 (Int32.toNatClampNeg (x5 - (1 : Int32))))]) (S := []) dX12_real_260 (kX12_bits hc39) g16 rfl mkX12_730 mwX12_bits rfl ⟨Nat.le_of_ble_eq_true rfl, Nat.le_of_ble_eq_true rfl⟩ (Nat.le_of_ble_eq_true rfl) ⟨Nat.le_refl _, Nat.le_refl _⟩ (fun b => b) ?_
            cases h
            exact r_lret dX12_real_263
        · have h := it h c
          refine r_aload_n (pc := 207) dX12_real_207 rfl 0 rfl ?_
          obtain ⟨a40, ha40, h⟩ := ob h
          refine r_getS (pc := 208) dX12_real_208 fgX12_250 rfl g16 ha40 ?_
          refine r_iconst (pc := 211) dX12_real_211 kc_iconst_0 ?_
          obtain ⟨g41, h⟩ := gd h
          obtain ⟨g42, h⟩ := gd h
          refine r_daload (pc := 212) dX12_real_212 g41 g42 ?_
          refine r_goto (pc := 213) (tgt := 260) dX12_real_213 rfl ?_
          obtain ⟨⟨I43, J44, r45⟩, hc46, h⟩ := ob h
          refine r_callV1 (pc := 260) (av := [vD (D a40 (Int32.toNatClampNeg (0 : Int32)))]) (S := []) dX12_real_260 (kX12_bits hc46) g16 rfl mkX12_730 mwX12_bits rfl ⟨Nat.le_of_ble_eq_true rfl, Nat.le_of_ble_eq_true rfl⟩ (Nat.le_of_ble_eq_true rfl) ⟨Nat.le_refl _, Nat.le_refl _⟩ (fun b => b) ?_
          cases h
          exact r_lret dX12_real_263
      · have h := it h c
        refine r_ldc2 (pc := 198) dX12_real_198 clX12_172 ?_
        cases h
        exact r_lret dX12_real_201
    · have h := ie h c
      refine r_iload_n (pc := 89) dX12_real_89 rfl 1 rfl ?_
      refine r_aload_n (pc := 90) dX12_real_90 rfl 0 rfl ?_
      obtain ⟨a47, ha47, h⟩ := ob h
      refine r_getS (pc := 91) dX12_real_91 fgX12_26 rfl g16 ha47 ?_
      refine r_aload_n (pc := 94) dX12_real_94 rfl 0 rfl ?_
      obtain ⟨a48, ha48, h⟩ := ob h
      refine r_getS (pc := 95) dX12_real_95 fgX12_22 rfl g16 ha48 ?_
      refine r_iload (pc := 98) dX12_real_98 3 rfl ?_
      obtain ⟨g49, h⟩ := gd h
      obtain ⟨g50, h⟩ := gd h
      refine r_iaload (pc := 100) dX12_real_100 g49 g50 ?_
      refine r_iload (pc := 101) dX12_real_101 6 rfl ?_
      refine r_iadd (pc := 103) dX12_real_103 ?_
      obtain ⟨g51, h⟩ := gd h
      obtain ⟨g52, h⟩ := gd h
      refine r_laload (pc := 104) dX12_real_104 g51 g52 ?_
      obtain ⟨r53, hc54, h⟩ := ob h
      refine r_callS1 (pc := 105) (av := [vI x1, vL (J a47 (Int32.toNatClampNeg ((I a48 (Int32.toNatClampNeg x4)) + x8)))]) (S := []) dX12_real_105 (kX12_realOf hc54) mkX12_711 mwX12_realOf rfl ⟨Nat.le_of_ble_eq_true rfl, Nat.le_of_ble_eq_true rfl⟩ (Nat.le_of_ble_eq_true rfl) ⟨Nat.le_refl _, Nat.le_refl _⟩ (fun b => b) ?_
      refine r_dstore (pc := 108) (L' := [(9, vD r53), (0, vR (some t)), (1, vI x1), (3, vI x3), (4, vI x4), (5, vI x5), (6, vD x6), (8, vI x8)]) dX12_real_108 (by decide) rfl ?_
      refine r_dload (pc := 110) dX12_real_110 0 rfl ?_
      refine r_dload (pc := 112) dX12_real_112 0 rfl ?_
      refine r_dcmp (pc := 114) dX12_real_114 ?_
      refine r_ifne (pc := 115) (tgt := 187) dX12_real_115 rfl (fun c => ?_) (fun c => ?_)
      · have h := ie h c
        refine r_iinc (pc := 187) (v := (x8 + (1 : Int32))) (L' := [(8, vI (x8 + (1 : Int32))), (9, vD r53), (0, vR (some t)), (1, vI x1), (3, vI x3), (4, vI x4), (5, vI x5), (6, vD x6)]) dX12_real_187 7 rfl (kc_inc_1 _) (by decide) rfl ?_
        refine r_goto (pc := 190) (tgt := 77) dX12_real_190 rfl ?_
        refine r_sub [2, 3, 4, 5, 6, 7, 0] rfl ?_
        exact ih _ _ _ _ _ _ _ _ _ h
      · have h := it h c
        refine r_dload (pc := 118) dX12_real_118 6 rfl ?_
        refine r_dload (pc := 120) dX12_real_120 0 rfl ?_
        obtain ⟨r56, hc57, h⟩ := ob h
        refine r_callS1 (pc := 122) (av := [vD x6, vD r53]) (S := []) dX12_real_122 (kX12_plusReal hc57) mkX12_719 mwX12_plusReal rfl ⟨Nat.le_of_ble_eq_true rfl, Nat.le_of_ble_eq_true rfl⟩ (Nat.le_of_ble_eq_true rfl) ⟨Nat.le_refl _, Nat.le_refl _⟩ (fun b => b) ?_
        refine r_dstore (pc := 125) (L' := [(6, vD r56), (9, vD r53), (0, vR (some t)), (1, vI x1), (3, vI x3), (4, vI x4), (5, vI x5), (8, vI x8)]) dX12_real_125 (by decide) rfl ?_
        refine r_iload (pc := 127) dX12_real_127 6 rfl ?_
        refine r_istore (pc := 129) (L' := [(11, vI x5), (6, vD r56), (9, vD r53), (0, vR (some t)), (1, vI x1), (3, vI x3), (4, vI x4), (5, vI x5), (8, vI x8)]) dX12_real_129 (by decide) rfl ?_
        refine r_sub [3, 4, 5, 6, 7, 1, 8, 2, 0] rfl ?_
        exact wX12_real_l131 ih _ _ _ _ _ _ _ _ _ _ _ _ h
def fX12_real (σ : Shp) (I : Nat → Nat → Int32) (J : Nat → Nat → Int64) (D : Nat → Nat → UInt64) (R : Nat → Nat → Option Nat) (t : Nat) (x1 : Int32) (x2 : Int32) (x3 : Int32) : Option ((Nat → Nat → Int32) × (Nat → Nat → Int64) × (Nat → Nat → UInt64) × (Int64)) :=
  if (fX12_in x1 (6 : Int32) (7 : Int32)) = 0 then
    some (I, J, D, (0 : Int64))
  else
    if (fX12_isBin x2) = 0 then
      some (I, J, D, (0 : Int64))
    else
      if (fX12_in x3 (0 : Int32) (3 : Int32)) = 0 then
        some (I, J, D, (0 : Int64))
      else
        if kdx σ t = 13 then
        ((R t 3) : Option Nat).bind fun a2 =>
        if kdx σ a2 = 20 then
        if ¬ (x2 < 0 ∨ lnx σ a2 ≤ Int32.toNatClampNeg x2) then
        let v5 := (I a2 (Int32.toNatClampNeg x2))
        if v5 = 0 then
          if v5 = 0 then
            (fX12_noBits σ I t (1 : Int32)).bind fun (I9, r10) =>
            some (I9, J, D, r10)
          else
            (fX12_noBits σ I t (4 : Int32)).bind fun (I6, r7) =>
            some (I6, J, D, r7)
        else
          ((R t 4) : Option Nat).bind fun a12 =>
          if kdx σ a12 = 22 then
          if ¬ (v5 < 0 ∨ lnx σ a12 ≤ Int32.toNatClampNeg v5) then
          if (I a12 (Int32.toNatClampNeg v5)) = x1 then
            let v15 := FP.dconst0
            fX12_real_l77 σ R t FUx I J D x1 x3 v5 (0 : Int32) v15 (0 : Int32)
          else
            if v5 = 0 then
              (fX12_noBits σ I t (1 : Int32)).bind fun (I81, r82) =>
              some (I81, J, D, r82)
            else
              (fX12_noBits σ I t (4 : Int32)).bind fun (I78, r79) =>
              some (I78, J, D, r79)
          else none
          else none
        else none
        else none
        else none
theorem kX12_real {G : Gx} {l : Launch} {σ : Shp} {I : Nat → Nat → Int32} {J : Nat → Nat → Int64} {D : Nat → Nat → UInt64} {R : Nat → Nat → Option Nat} {t : Nat} {x1 : Int32} {x2 : Int32} {x3 : Int32} {I9 : Nat → Nat → Int32} {J9 : Nat → Nat → Int64} {D9 : Nat → Nat → UInt64} {r9 : Int64} (h : fX12_real σ I J D R t x1 x2 x3 = some (I9, J9, D9, r9)) : Con G l yX12_real cX12_real 12 (some .long) 4 97 [vR (some t), vI x1, vI x2, vI x3] (σ, I, J, D, R) (σ, I9, J9, D9, R) (some (vL r9)) := by
  unfold fX12_real at h
  refine Con.mk (by decide +kernel) rfl (Nat.le_of_ble_eq_true rfl) ?_
  show WX12_real G l σ (σ, I9, J9, D9, R) (some (vL r9)) (σ, I, J, D, R) 0 _ []
  refine r_iload_n (pc := 0) dX12_real_0 rfl 1 rfl ?_
  refine r_bipush (pc := 1) dX12_real_1 kc_bipush_6 ?_
  refine r_bipush (pc := 3) dX12_real_3 kc_bipush_7 ?_
  refine r_callS1 (pc := 5) (av := [vI x1, vI (6 : Int32), vI (7 : Int32)]) (S := []) dX12_real_5 (kX12_in rfl) mkX12_322 mwX12_in rfl ⟨Nat.le_of_ble_eq_true rfl, Nat.le_of_ble_eq_true rfl⟩ (Nat.le_of_ble_eq_true rfl) ⟨Nat.le_refl _, Nat.le_refl _⟩ (fun b => b) ?_
  refine r_if_eq (pc := 8) (tgt := 27) dX12_real_8 rfl (fun c => ?_) (fun c => ?_)
  · have h := it h c
    refine r_lconst (pc := 27) dX12_real_27 kc_lconst_0 ?_
    cases h
    exact r_lret dX12_real_28
  · have h := ie h c
    refine r_iload_n (pc := 11) dX12_real_11 rfl 2 rfl ?_
    refine r_callS1 (pc := 12) (av := [vI x2]) (S := []) dX12_real_12 (kX12_isBin rfl) mkX12_345 mwX12_isBin rfl ⟨Nat.le_of_ble_eq_true rfl, Nat.le_of_ble_eq_true rfl⟩ (Nat.le_of_ble_eq_true rfl) ⟨Nat.le_refl _, Nat.le_refl _⟩ (fun b => b) ?_
    refine r_if_eq (pc := 15) (tgt := 27) dX12_real_15 rfl (fun c => ?_) (fun c => ?_)
    · have h := it h c
      refine r_lconst (pc := 27) dX12_real_27 kc_lconst_0 ?_
      cases h
      exact r_lret dX12_real_28
    · have h := ie h c
      refine r_iload_n (pc := 18) dX12_real_18 rfl 3 rfl ?_
      refine r_iconst (pc := 19) dX12_real_19 kc_iconst_0 ?_
      refine r_iconst (pc := 20) dX12_real_20 kc_iconst_3 ?_
      refine r_callS1 (pc := 21) (av := [vI x3, vI (0 : Int32), vI (3 : Int32)]) (S := []) dX12_real_21 (kX12_in rfl) mkX12_322 mwX12_in rfl ⟨Nat.le_of_ble_eq_true rfl, Nat.le_of_ble_eq_true rfl⟩ (Nat.le_of_ble_eq_true rfl) ⟨Nat.le_refl _, Nat.le_refl _⟩ (fun b => b) ?_
      refine r_ifne (pc := 24) (tgt := 29) dX12_real_24 rfl (fun c => ?_) (fun c => ?_)
      · have h := ie h c
        refine r_aload_n (pc := 29) dX12_real_29 rfl 0 rfl ?_
        obtain ⟨g1, h⟩ := gd h
        obtain ⟨a2, ha2, h⟩ := ob h
        refine r_getS (pc := 30) dX12_real_30 fgX12_9 rfl g1 ha2 ?_
        refine r_iload_n (pc := 33) dX12_real_33 rfl 2 rfl ?_
        obtain ⟨g3, h⟩ := gd h
        obtain ⟨g4, h⟩ := gd h
        refine r_iaload (pc := 34) dX12_real_34 g3 g4 ?_
        refine r_istore (pc := 35) (L' := [(4, vI (I a2 (Int32.toNatClampNeg x2))), (0, vR (some t)), (1, vI x1), (2, vI x2), (3, vI x3)]) dX12_real_35 (by decide) rfl ?_
        refine r_iload (pc := 37) dX12_real_37 0 rfl ?_
        refine r_if_eq (pc := 39) (tgt := 53) dX12_real_39 rfl (fun c => ?_) (fun c => ?_)
        · have h := it h c
          refine r_aload_n (pc := 53) dX12_real_53 rfl 1 rfl ?_
          refine r_iload (pc := 54) dX12_real_54 0 rfl ?_
          refine r_ifne (pc := 56) (tgt := 63) dX12_real_56 rfl (fun c => ?_) (fun c => ?_)
          · have h := ie h c
            refine r_iconst (pc := 63) dX12_real_63 kc_iconst_4 ?_
            obtain ⟨⟨I6, r7⟩, hc8, h⟩ := ob h
            refine r_callV1 (pc := 64) (av := [vI (4 : Int32)]) (S := []) dX12_real_64 (kX12_noBits hc8) g1 rfl mkX12_373 mwX12_noBits rfl ⟨Nat.le_of_ble_eq_true rfl, Nat.le_of_ble_eq_true rfl⟩ (Nat.le_of_ble_eq_true rfl) ⟨Nat.le_refl _, Nat.le_refl _⟩ (fun b => b) ?_
            cases h
            exact r_lret dX12_real_67
          · have h := it h c
            refine r_iconst (pc := 59) dX12_real_59 kc_iconst_1 ?_
            refine r_goto (pc := 60) (tgt := 64) dX12_real_60 rfl ?_
            obtain ⟨⟨I9, r10⟩, hc11, h⟩ := ob h
            refine r_callV1 (pc := 64) (av := [vI (1 : Int32)]) (S := []) dX12_real_64 (kX12_noBits hc11) g1 rfl mkX12_373 mwX12_noBits rfl ⟨Nat.le_of_ble_eq_true rfl, Nat.le_of_ble_eq_true rfl⟩ (Nat.le_of_ble_eq_true rfl) ⟨Nat.le_refl _, Nat.le_refl _⟩ (fun b => b) ?_
            cases h
            exact r_lret dX12_real_67
        · have h := ie h c
          refine r_aload_n (pc := 42) dX12_real_42 rfl 1 rfl ?_
          obtain ⟨a12, ha12, h⟩ := ob h
          refine r_getS (pc := 43) dX12_real_43 fgX12_15 rfl g1 ha12 ?_
          refine r_iload (pc := 46) dX12_real_46 0 rfl ?_
          obtain ⟨g13, h⟩ := gd h
          obtain ⟨g14, h⟩ := gd h
          refine r_baload (pc := 48) dX12_real_48 g13 g14 ?_
          refine r_iload_n (pc := 49) dX12_real_49 rfl 2 rfl ?_
          refine r_icmp_eq (pc := 50) (tgt := 68) dX12_real_50 rfl (fun c => ?_) (fun c => ?_)
          · have h := it h c
            refine r_iconst (pc := 68) dX12_real_68 kc_iconst_0 ?_
            refine r_istore (pc := 69) (L' := [(5, vI (0 : Int32)), (4, vI (I a2 (Int32.toNatClampNeg x2))), (0, vR (some t)), (1, vI x1), (2, vI x2), (3, vI x3)]) dX12_real_69 (by decide) rfl ?_
            refine r_dconst0 (pc := 71) dX12_real_71 ?_
            refine r_dstore (pc := 72) (L' := [(6, vD (FP.dconst0)), (5, vI (0 : Int32)), (4, vI (I a2 (Int32.toNatClampNeg x2))), (0, vR (some t)), (1, vI x1), (2, vI x2), (3, vI x3)]) dX12_real_72 (by decide) rfl ?_
            refine r_iconst (pc := 74) dX12_real_74 kc_iconst_0 ?_
            refine r_istore (pc := 75) (L' := [(8, vI (0 : Int32)), (6, vD (FP.dconst0)), (5, vI (0 : Int32)), (4, vI (I a2 (Int32.toNatClampNeg x2))), (0, vR (some t)), (1, vI x1), (2, vI x2), (3, vI x3)]) dX12_real_75 (by decide) rfl ?_
            refine r_sub [4, 5, 7, 3, 2, 1, 0] rfl ?_
            exact wX12_real_l77 _ _ _ _ _ _ _ _ _ _ h
          · have h := ie h c
            refine r_aload_n (pc := 53) dX12_real_53 rfl 1 rfl ?_
            refine r_iload (pc := 54) dX12_real_54 0 rfl ?_
            refine r_ifne (pc := 56) (tgt := 63) dX12_real_56 rfl (fun c => ?_) (fun c => ?_)
            · have h := ie h c
              refine r_iconst (pc := 63) dX12_real_63 kc_iconst_4 ?_
              obtain ⟨⟨I78, r79⟩, hc80, h⟩ := ob h
              refine r_callV1 (pc := 64) (av := [vI (4 : Int32)]) (S := []) dX12_real_64 (kX12_noBits hc80) g1 rfl mkX12_373 mwX12_noBits rfl ⟨Nat.le_of_ble_eq_true rfl, Nat.le_of_ble_eq_true rfl⟩ (Nat.le_of_ble_eq_true rfl) ⟨Nat.le_refl _, Nat.le_refl _⟩ (fun b => b) ?_
              cases h
              exact r_lret dX12_real_67
            · have h := it h c
              refine r_iconst (pc := 59) dX12_real_59 kc_iconst_1 ?_
              refine r_goto (pc := 60) (tgt := 64) dX12_real_60 rfl ?_
              obtain ⟨⟨I81, r82⟩, hc83, h⟩ := ob h
              refine r_callV1 (pc := 64) (av := [vI (1 : Int32)]) (S := []) dX12_real_64 (kX12_noBits hc83) g1 rfl mkX12_373 mwX12_noBits rfl ⟨Nat.le_of_ble_eq_true rfl, Nat.le_of_ble_eq_true rfl⟩ (Nat.le_of_ble_eq_true rfl) ⟨Nat.le_refl _, Nat.le_refl _⟩ (fun b => b) ?_
              cases h
              exact r_lret dX12_real_67
      · have h := it h c
        refine r_lconst (pc := 27) dX12_real_27 kc_lconst_0 ?_
        cases h
        exact r_lret dX12_real_28
abbrev WX12_wholeMean (G : Gx) (l : Launch) (σ0 : Shp) (X1 : Stt) (rv : Option SV) : Stt → Nat → List (Nat × SV) → List SV → Prop := Wm G l yX12_wholeMean cX12_wholeMean 7 (some .int) (fun _ => True) (rmx 1 22 σ0 X1.1) σ0 (Qmx G σ0 X1 rv)
def fX12_wholeMean_l70  (σ : Shp) (J : Nat → Nat → Int64) (R : Nat → Nat → Option Nat) (t : Nat) : Nat → (Nat → Nat → Int32) → (Int32) → (Int64) → (Int32) → Option ((Nat → Nat → Int32) × (Int32))
  | 0, _, _, _, _ => none
  | n + 1, I, x2, x4, x6 =>
    if kdx σ t = 13 then
    ((R t 5) : Option Nat).bind fun a12 =>
    if kdx σ a12 = 22 then
    if ¬ (x2 < 0 ∨ lnx σ a12 ≤ Int32.toNatClampNeg x2) then
    if (I a12 (Int32.toNatClampNeg x2)) ≤ x6 then
      if ¬ (Int32.toInt64 (I a12 (Int32.toNatClampNeg x2))) = 0 then
      let I16 := u2 I t 25 (Int64.toInt32 (x4 / (Int32.toInt64 (I a12 (Int32.toNatClampNeg x2)))))
      some (I16, (1 : Int32))
      else none
    else
      ((R t 8) : Option Nat).bind fun a17 =>
      ((R t 6) : Option Nat).bind fun a18 =>
      if kdx σ a18 = 20 then
      if ¬ (x2 < 0 ∨ lnx σ a18 ≤ Int32.toNatClampNeg x2) then
      if kdx σ a17 = 21 then
      if ¬ (((I a18 (Int32.toNatClampNeg x2)) + x6) < 0 ∨ lnx σ a17 ≤ Int32.toNatClampNeg ((I a18 (Int32.toNatClampNeg x2)) + x6)) then
      let v23 := (x4 + (J a17 (Int32.toNatClampNeg ((I a18 (Int32.toNatClampNeg x2)) + x6))))
      let v24 := x6 + (1 : Int32)
      fX12_wholeMean_l70 σ J R t n I x2 v23 v24
      else none
      else none
      else none
      else none
    else none
    else none
    else none
theorem wX12_wholeMean_l70 {G : Gx} {l : Launch} {σ : Shp} {J : Nat → Nat → Int64} {D : Nat → Nat → UInt64} {R : Nat → Nat → Option Nat} {t : Nat} {I9 : Nat → Nat → Int32} {r9 : Int32} : ∀ (n : Nat) (I : Nat → Nat → Int32) (x2 : Int32) (x4 : Int64) (x6 : Int32), fX12_wholeMean_l70 σ J R t n I x2 x4 x6 = some (I9, r9) → WX12_wholeMean G l σ (σ, I9, J, D, R) (some (vI r9)) (σ, I, J, D, R) 70 [(0, vR (some t)), (2, vI x2), (4, vL x4), (6, vI x6)] [] := by
  intro n
  induction n with
  | zero =>
    intro I x2 x4 x6 h
    have h : none = some _ := h
    cases h
  | succ n ih =>
    intro I x2 x4 x6 h
    rw [fX12_wholeMean_l70] at h
    refine r_iload (pc := 70) dX12_wholeMean_70 3 rfl ?_
    refine r_aload_n (pc := 72) dX12_wholeMean_72 rfl 0 rfl ?_
    obtain ⟨g11, h⟩ := gd h
    obtain ⟨a12, ha12, h⟩ := ob h
    refine r_getS (pc := 73) dX12_wholeMean_73 fgX12_19 rfl g11 ha12 ?_
    refine r_iload_n (pc := 76) dX12_wholeMean_76 rfl 1 rfl ?_
    obtain ⟨g13, h⟩ := gd h
    obtain ⟨g14, h⟩ := gd h
    refine r_baload (pc := 77) dX12_wholeMean_77 g13 g14 ?_
    refine r_icmp_ge (pc := 78) (tgt := 106) dX12_wholeMean_78 rfl (fun c => ?_) (fun c => ?_)
    · have h := it h c
      refine r_aload_n (pc := 106) dX12_wholeMean_106 rfl 0 rfl ?_
      refine r_lload (pc := 107) dX12_wholeMean_107 2 rfl ?_
      refine r_aload_n (pc := 109) dX12_wholeMean_109 rfl 0 rfl ?_
      refine r_getS (pc := 110) dX12_wholeMean_110 fgX12_19 rfl g11 ha12 ?_
      refine r_iload_n (pc := 113) dX12_wholeMean_113 rfl 1 rfl ?_
      refine r_baload (pc := 114) dX12_wholeMean_114 g13 g14 ?_
      refine r_i2l (pc := 115) dX12_wholeMean_115 ?_
      obtain ⟨g15, h⟩ := gd h
      refine r_ldiv (pc := 116) dX12_wholeMean_116 g15 ?_
      refine r_l2i (pc := 117) dX12_wholeMean_117 ?_
      refine r_putI (pc := 118) dX12_wholeMean_118 fwX12_466 rfl g11 ?_
      refine r_iconst (pc := 121) dX12_wholeMean_121 kc_iconst_1 ?_
      cases h
      exact r_iret dX12_wholeMean_122
    · have h := ie h c
      refine r_lload (pc := 81) dX12_wholeMean_81 2 rfl ?_
      refine r_aload_n (pc := 83) dX12_wholeMean_83 rfl 0 rfl ?_
      obtain ⟨a17, ha17, h⟩ := ob h
      refine r_getS (pc := 84) dX12_wholeMean_84 fgX12_26 rfl g11 ha17 ?_
      refine r_aload_n (pc := 87) dX12_wholeMean_87 rfl 0 rfl ?_
      obtain ⟨a18, ha18, h⟩ := ob h
      refine r_getS (pc := 88) dX12_wholeMean_88 fgX12_22 rfl g11 ha18 ?_
      refine r_iload_n (pc := 91) dX12_wholeMean_91 rfl 1 rfl ?_
      obtain ⟨g19, h⟩ := gd h
      obtain ⟨g20, h⟩ := gd h
      refine r_iaload (pc := 92) dX12_wholeMean_92 g19 g20 ?_
      refine r_iload (pc := 93) dX12_wholeMean_93 3 rfl ?_
      refine r_iadd (pc := 95) dX12_wholeMean_95 ?_
      obtain ⟨g21, h⟩ := gd h
      obtain ⟨g22, h⟩ := gd h
      refine r_laload (pc := 96) dX12_wholeMean_96 g21 g22 ?_
      refine r_ladd (pc := 97) dX12_wholeMean_97 ?_
      refine r_lstore (pc := 98) (L' := [(4, vL (x4 + (J a17 (Int32.toNatClampNeg ((I a18 (Int32.toNatClampNeg x2)) + x6))))), (0, vR (some t)), (2, vI x2), (6, vI x6)]) dX12_wholeMean_98 (by decide) rfl ?_
      refine r_iinc (pc := 100) (v := (x6 + (1 : Int32))) (L' := [(6, vI (x6 + (1 : Int32))), (4, vL (x4 + (J a17 (Int32.toNatClampNeg ((I a18 (Int32.toNatClampNeg x2)) + x6))))), (0, vR (some t)), (2, vI x2)]) dX12_wholeMean_100 3 rfl (kc_inc_1 _) (by decide) rfl ?_
      refine r_goto (pc := 103) (tgt := 70) dX12_wholeMean_103 rfl ?_
      refine r_sub [2, 3, 1, 0] rfl ?_
      exact ih _ _ _ _ h
def fX12_wholeMean (σ : Shp) (I : Nat → Nat → Int32) (J : Nat → Nat → Int64) (R : Nat → Nat → Option Nat) (t : Nat) (x1 : Int32) : Option ((Nat → Nat → Int32) × (Int32)) :=
  if (fX12_isBin x1) = 0 then
    some (I, (-2 : Int32))
  else
    if kdx σ t = 13 then
    ((R t 3) : Option Nat).bind fun a2 =>
    if kdx σ a2 = 20 then
    if ¬ (x1 < 0 ∨ lnx σ a2 ≤ Int32.toNatClampNeg x1) then
    let v5 := (I a2 (Int32.toNatClampNeg x1))
    (fX12_isOf σ I R t v5 (4 : Int32)).bind fun r6 =>
    if r6 = 0 then
      if (4 : Int32) = 0 then
        fX12_wholeMean_l70 σ J R t FUx I v5 (0 : Int64) (0 : Int32)
      else
        (fX12_no σ I t (4 : Int32)).bind fun (I34, r35) =>
        some (I34, r35)
    else
      if v5 = 0 then
        if (1 : Int32) = 0 then
          fX12_wholeMean_l70 σ J R t FUx I v5 (0 : Int64) (0 : Int32)
        else
          (fX12_no σ I t (1 : Int32)).bind fun (I31, r32) =>
          some (I31, r32)
      else
        ((R t 5) : Option Nat).bind fun a8 =>
        if kdx σ a8 = 22 then
        if ¬ (v5 < 0 ∨ lnx σ a8 ≤ Int32.toNatClampNeg v5) then
        if (I a8 (Int32.toNatClampNeg v5)) = 0 then
          if (6 : Int32) = 0 then
            fX12_wholeMean_l70 σ J R t FUx I v5 (0 : Int64) (0 : Int32)
          else
            (fX12_no σ I t (6 : Int32)).bind fun (I28, r29) =>
            some (I28, r29)
        else
          if (0 : Int32) = 0 then
            fX12_wholeMean_l70 σ J R t FUx I v5 (0 : Int64) (0 : Int32)
          else
            (fX12_no σ I t (0 : Int32)).bind fun (I25, r26) =>
            some (I25, r26)
        else none
        else none
    else none
    else none
    else none
theorem kX12_wholeMean {G : Gx} {l : Launch} {σ : Shp} {I : Nat → Nat → Int32} {J : Nat → Nat → Int64} {D : Nat → Nat → UInt64} {R : Nat → Nat → Option Nat} {t : Nat} {x1 : Int32} {I9 : Nat → Nat → Int32} {r9 : Int32} (h : fX12_wholeMean σ I J R t x1 = some (I9, r9)) : Con G l yX12_wholeMean cX12_wholeMean 7 (some .int) 1 22 [vR (some t), vI x1] (σ, I, J, D, R) (σ, I9, J, D, R) (some (vI r9)) := by
  unfold fX12_wholeMean at h
  refine Con.mk (by decide +kernel) rfl (Nat.le_of_ble_eq_true rfl) ?_
  show WX12_wholeMean G l σ (σ, I9, J, D, R) (some (vI r9)) (σ, I, J, D, R) 0 _ []
  refine r_iload_n (pc := 0) dX12_wholeMean_0 rfl 1 rfl ?_
  refine r_callS1 (pc := 1) (av := [vI x1]) (S := []) dX12_wholeMean_1 (kX12_isBin rfl) mkX12_345 mwX12_isBin rfl ⟨Nat.le_of_ble_eq_true rfl, Nat.le_of_ble_eq_true rfl⟩ (Nat.le_of_ble_eq_true rfl) ⟨Nat.le_refl _, Nat.le_refl _⟩ (fun b => b) ?_
  refine r_ifne (pc := 4) (tgt := 10) dX12_wholeMean_4 rfl (fun c => ?_) (fun c => ?_)
  · have h := ie h c
    refine r_aload_n (pc := 10) dX12_wholeMean_10 rfl 0 rfl ?_
    obtain ⟨g1, h⟩ := gd h
    obtain ⟨a2, ha2, h⟩ := ob h
    refine r_getS (pc := 11) dX12_wholeMean_11 fgX12_9 rfl g1 ha2 ?_
    refine r_iload_n (pc := 14) dX12_wholeMean_14 rfl 1 rfl ?_
    obtain ⟨g3, h⟩ := gd h
    obtain ⟨g4, h⟩ := gd h
    refine r_iaload (pc := 15) dX12_wholeMean_15 g3 g4 ?_
    refine r_istore_n (pc := 16) (L' := [(2, vI (I a2 (Int32.toNatClampNeg x1))), (0, vR (some t)), (1, vI x1)]) dX12_wholeMean_16 rfl (by decide) rfl ?_
    refine r_aload_n (pc := 17) dX12_wholeMean_17 rfl 1 rfl ?_
    refine r_iload_n (pc := 18) dX12_wholeMean_18 rfl 0 rfl ?_
    refine r_iconst (pc := 19) dX12_wholeMean_19 kc_iconst_4 ?_
    obtain ⟨r6, hc7, h⟩ := ob h
    refine r_callV1 (pc := 20) (av := [vI (I a2 (Int32.toNatClampNeg x1)), vI (4 : Int32)]) (S := []) dX12_wholeMean_20 (kX12_isOf hc7) g1 rfl mkX12_363 mwX12_isOf rfl ⟨Nat.le_of_ble_eq_true rfl, Nat.le_of_ble_eq_true rfl⟩ (Nat.le_of_ble_eq_true rfl) ⟨Nat.le_refl _, Nat.le_refl _⟩ (fun b => b) ?_
    refine r_ifne (pc := 23) (tgt := 30) dX12_wholeMean_23 rfl (fun c => ?_) (fun c => ?_)
    · have h := ie h c
      refine r_iload_n (pc := 30) dX12_wholeMean_30 rfl 0 rfl ?_
      refine r_ifne (pc := 31) (tgt := 38) dX12_wholeMean_31 rfl (fun c => ?_) (fun c => ?_)
      · have h := ie h c
        refine r_aload_n (pc := 38) dX12_wholeMean_38 rfl 1 rfl ?_
        obtain ⟨a8, ha8, h⟩ := ob h
        refine r_getS (pc := 39) dX12_wholeMean_39 fgX12_19 rfl g1 ha8 ?_
        refine r_iload_n (pc := 42) dX12_wholeMean_42 rfl 0 rfl ?_
        obtain ⟨g9, h⟩ := gd h
        obtain ⟨g10, h⟩ := gd h
        refine r_baload (pc := 43) dX12_wholeMean_43 g9 g10 ?_
        refine r_ifne (pc := 44) (tgt := 52) dX12_wholeMean_44 rfl (fun c => ?_) (fun c => ?_)
        · have h := ie h c
          refine r_iconst (pc := 52) dX12_wholeMean_52 kc_iconst_0 ?_
          refine r_istore_n (pc := 53) (L' := [(3, vI (0 : Int32)), (2, vI (I a2 (Int32.toNatClampNeg x1))), (0, vR (some t)), (1, vI x1)]) dX12_wholeMean_53 rfl (by decide) rfl ?_
          refine r_iload_n (pc := 54) dX12_wholeMean_54 rfl 0 rfl ?_
          refine r_if_eq (pc := 55) (tgt := 64) dX12_wholeMean_55 rfl (fun c => ?_) (fun c => ?_)
          · have h := it h c
            refine r_lconst (pc := 64) dX12_wholeMean_64 kc_lconst_0 ?_
            refine r_lstore (pc := 65) (L' := [(4, vL (0 : Int64)), (3, vI (0 : Int32)), (2, vI (I a2 (Int32.toNatClampNeg x1))), (0, vR (some t)), (1, vI x1)]) dX12_wholeMean_65 (by decide) rfl ?_
            refine r_iconst (pc := 67) dX12_wholeMean_67 kc_iconst_0 ?_
            refine r_istore (pc := 68) (L' := [(6, vI (0 : Int32)), (4, vL (0 : Int64)), (3, vI (0 : Int32)), (2, vI (I a2 (Int32.toNatClampNeg x1))), (0, vR (some t)), (1, vI x1)]) dX12_wholeMean_68 (by decide) rfl ?_
            refine r_sub [4, 3, 1, 0] rfl ?_
            exact wX12_wholeMean_l70 _ _ _ _ _ h
          · have h := ie h c
            refine r_aload_n (pc := 58) dX12_wholeMean_58 rfl 2 rfl ?_
            refine r_iload_n (pc := 59) dX12_wholeMean_59 rfl 0 rfl ?_
            obtain ⟨⟨I25, r26⟩, hc27, h⟩ := ob h
            refine r_callV1 (pc := 60) (av := [vI (0 : Int32)]) (S := []) dX12_wholeMean_60 (kX12_no hc27) g1 rfl mkX12_308 mwX12_no rfl ⟨Nat.le_of_ble_eq_true rfl, Nat.le_of_ble_eq_true rfl⟩ (Nat.le_of_ble_eq_true rfl) ⟨Nat.le_refl _, Nat.le_refl _⟩ (fun b => b) ?_
            cases h
            exact r_iret dX12_wholeMean_63
        · have h := it h c
          refine r_bipush (pc := 47) dX12_wholeMean_47 kc_bipush_6 ?_
          refine r_goto (pc := 49) (tgt := 53) dX12_wholeMean_49 rfl ?_
          refine r_istore_n (pc := 53) (L' := [(3, vI (6 : Int32)), (2, vI (I a2 (Int32.toNatClampNeg x1))), (0, vR (some t)), (1, vI x1)]) dX12_wholeMean_53 rfl (by decide) rfl ?_
          refine r_iload_n (pc := 54) dX12_wholeMean_54 rfl 0 rfl ?_
          refine r_if_eq (pc := 55) (tgt := 64) dX12_wholeMean_55 rfl (fun c => ?_) (fun c => ?_)
          · have h := it h c
            refine r_lconst (pc := 64) dX12_wholeMean_64 kc_lconst_0 ?_
            refine r_lstore (pc := 65) (L' := [(4, vL (0 : Int64)), (3, vI (6 : Int32)), (2, vI (I a2 (Int32.toNatClampNeg x1))), (0, vR (some t)), (1, vI x1)]) dX12_wholeMean_65 (by decide) rfl ?_
            refine r_iconst (pc := 67) dX12_wholeMean_67 kc_iconst_0 ?_
            refine r_istore (pc := 68) (L' := [(6, vI (0 : Int32)), (4, vL (0 : Int64)), (3, vI (6 : Int32)), (2, vI (I a2 (Int32.toNatClampNeg x1))), (0, vR (some t)), (1, vI x1)]) dX12_wholeMean_68 (by decide) rfl ?_
            refine r_sub [4, 3, 1, 0] rfl ?_
            exact wX12_wholeMean_l70 _ _ _ _ _ h
          · have h := ie h c
            refine r_aload_n (pc := 58) dX12_wholeMean_58 rfl 2 rfl ?_
            refine r_iload_n (pc := 59) dX12_wholeMean_59 rfl 0 rfl ?_
            obtain ⟨⟨I28, r29⟩, hc30, h⟩ := ob h
            refine r_callV1 (pc := 60) (av := [vI (6 : Int32)]) (S := []) dX12_wholeMean_60 (kX12_no hc30) g1 rfl mkX12_308 mwX12_no rfl ⟨Nat.le_of_ble_eq_true rfl, Nat.le_of_ble_eq_true rfl⟩ (Nat.le_of_ble_eq_true rfl) ⟨Nat.le_refl _, Nat.le_refl _⟩ (fun b => b) ?_
            cases h
            exact r_iret dX12_wholeMean_63
      · have h := it h c
        refine r_iconst (pc := 34) dX12_wholeMean_34 kc_iconst_1 ?_
        refine r_goto (pc := 35) (tgt := 53) dX12_wholeMean_35 rfl ?_
        refine r_istore_n (pc := 53) (L' := [(3, vI (1 : Int32)), (2, vI (I a2 (Int32.toNatClampNeg x1))), (0, vR (some t)), (1, vI x1)]) dX12_wholeMean_53 rfl (by decide) rfl ?_
        refine r_iload_n (pc := 54) dX12_wholeMean_54 rfl 0 rfl ?_
        refine r_if_eq (pc := 55) (tgt := 64) dX12_wholeMean_55 rfl (fun c => ?_) (fun c => ?_)
        · have h := it h c
          refine r_lconst (pc := 64) dX12_wholeMean_64 kc_lconst_0 ?_
          refine r_lstore (pc := 65) (L' := [(4, vL (0 : Int64)), (3, vI (1 : Int32)), (2, vI (I a2 (Int32.toNatClampNeg x1))), (0, vR (some t)), (1, vI x1)]) dX12_wholeMean_65 (by decide) rfl ?_
          refine r_iconst (pc := 67) dX12_wholeMean_67 kc_iconst_0 ?_
          refine r_istore (pc := 68) (L' := [(6, vI (0 : Int32)), (4, vL (0 : Int64)), (3, vI (1 : Int32)), (2, vI (I a2 (Int32.toNatClampNeg x1))), (0, vR (some t)), (1, vI x1)]) dX12_wholeMean_68 (by decide) rfl ?_
          refine r_sub [4, 3, 1, 0] rfl ?_
          exact wX12_wholeMean_l70 _ _ _ _ _ h
        · have h := ie h c
          refine r_aload_n (pc := 58) dX12_wholeMean_58 rfl 2 rfl ?_
          refine r_iload_n (pc := 59) dX12_wholeMean_59 rfl 0 rfl ?_
          obtain ⟨⟨I31, r32⟩, hc33, h⟩ := ob h
          refine r_callV1 (pc := 60) (av := [vI (1 : Int32)]) (S := []) dX12_wholeMean_60 (kX12_no hc33) g1 rfl mkX12_308 mwX12_no rfl ⟨Nat.le_of_ble_eq_true rfl, Nat.le_of_ble_eq_true rfl⟩ (Nat.le_of_ble_eq_true rfl) ⟨Nat.le_refl _, Nat.le_refl _⟩ (fun b => b) ?_
          cases h
          exact r_iret dX12_wholeMean_63
    · have h := it h c
      refine r_iconst (pc := 26) dX12_wholeMean_26 kc_iconst_4 ?_
      refine r_goto (pc := 27) (tgt := 53) dX12_wholeMean_27 rfl ?_
      refine r_istore_n (pc := 53) (L' := [(3, vI (4 : Int32)), (2, vI (I a2 (Int32.toNatClampNeg x1))), (0, vR (some t)), (1, vI x1)]) dX12_wholeMean_53 rfl (by decide) rfl ?_
      refine r_iload_n (pc := 54) dX12_wholeMean_54 rfl 0 rfl ?_
      refine r_if_eq (pc := 55) (tgt := 64) dX12_wholeMean_55 rfl (fun c => ?_) (fun c => ?_)
      · have h := it h c
        refine r_lconst (pc := 64) dX12_wholeMean_64 kc_lconst_0 ?_
        refine r_lstore (pc := 65) (L' := [(4, vL (0 : Int64)), (3, vI (4 : Int32)), (2, vI (I a2 (Int32.toNatClampNeg x1))), (0, vR (some t)), (1, vI x1)]) dX12_wholeMean_65 (by decide) rfl ?_
        refine r_iconst (pc := 67) dX12_wholeMean_67 kc_iconst_0 ?_
        refine r_istore (pc := 68) (L' := [(6, vI (0 : Int32)), (4, vL (0 : Int64)), (3, vI (4 : Int32)), (2, vI (I a2 (Int32.toNatClampNeg x1))), (0, vR (some t)), (1, vI x1)]) dX12_wholeMean_68 (by decide) rfl ?_
        refine r_sub [4, 3, 1, 0] rfl ?_
        exact wX12_wholeMean_l70 _ _ _ _ _ h
      · have h := ie h c
        refine r_aload_n (pc := 58) dX12_wholeMean_58 rfl 2 rfl ?_
        refine r_iload_n (pc := 59) dX12_wholeMean_59 rfl 0 rfl ?_
        obtain ⟨⟨I34, r35⟩, hc36, h⟩ := ob h
        refine r_callV1 (pc := 60) (av := [vI (4 : Int32)]) (S := []) dX12_wholeMean_60 (kX12_no hc36) g1 rfl mkX12_308 mwX12_no rfl ⟨Nat.le_of_ble_eq_true rfl, Nat.le_of_ble_eq_true rfl⟩ (Nat.le_of_ble_eq_true rfl) ⟨Nat.le_refl _, Nat.le_refl _⟩ (fun b => b) ?_
        cases h
        exact r_iret dX12_wholeMean_63
  · have h := it h c
    refine r_bipush (pc := 7) dX12_wholeMean_7 kc_bipush_m2 ?_
    cases h
    exact r_iret dX12_wholeMean_9
abbrev WX12_salt (G : Gx) (l : Launch) (σ0 : Shp) (X1 : Stt) (rv : Option SV) : Stt → Nat → List (Nat × SV) → List SV → Prop := Wm G l yX12_salt cX12_salt 5 (some .int) (fun _ => True) (rmx 1 22 σ0 X1.1) σ0 (Qmx G σ0 X1 rv)
def fX12_salt_b33  (σ : Shp) (R : Nat → Nat → Option Nat) (t : Nat) (I : Nat → Nat → Int32) (x1 : Int32) (x2 : Int32) (x3 : Int32) (s0 : Int32) (s1 : Int32) (s2 : Int32) : Option ((Nat → Nat → Int32) × (Int32)) :=
  if (fX12_in s0 s1 s2) = 0 then
    some (I, (-2 : Int32))
  else
    if kdx σ t = 13 then
    ((R t 110) : Option Nat).bind fun a2 =>
    if kdx σ a2 = 20 then
    if ¬ ((((3 : Int32) * x1) + x2) < 0 ∨ lnx σ a2 ≤ Int32.toNatClampNeg (((3 : Int32) * x1) + x2)) then
    let v5 := (I a2 (Int32.toNatClampNeg (((3 : Int32) * x1) + x2)))
    let I6 := u2 I a2 (Int32.toNatClampNeg (((3 : Int32) * x1) + x2)) x3
    some (I6, v5)
    else none
    else none
    else none
theorem wX12_salt_b33 {G : Gx} {l : Launch} {σ : Shp} {I : Nat → Nat → Int32} {J : Nat → Nat → Int64} {D : Nat → Nat → UInt64} {R : Nat → Nat → Option Nat} {t : Nat} {I9 : Nat → Nat → Int32} {r9 : Int32} {x1 : Int32} {x2 : Int32} {x3 : Int32} {s0 : Int32} {s1 : Int32} {s2 : Int32} (h : fX12_salt_b33 σ R t I x1 x2 x3 s0 s1 s2 = some (I9, r9)) : WX12_salt G l σ (σ, I9, J, D, R) (some (vI r9)) (σ, I, J, D, R) 33 [(0, vR (some t)), (1, vI x1), (2, vI x2), (3, vI x3)] [vI s2, vI s1, vI s0] := by
  unfold fX12_salt_b33 at h
  refine r_callS1 (pc := 33) (av := [vI s0, vI s1, vI s2]) (S := []) dX12_salt_33 (kX12_in rfl) mkX12_322 mwX12_in rfl ⟨Nat.le_of_ble_eq_true rfl, Nat.le_of_ble_eq_true rfl⟩ (Nat.le_of_ble_eq_true rfl) ⟨Nat.le_refl _, Nat.le_refl _⟩ (fun b => b) ?_
  refine r_ifne (pc := 36) (tgt := 42) dX12_salt_36 rfl (fun c => ?_) (fun c => ?_)
  · have h := ie h c
    refine r_aload_n (pc := 42) dX12_salt_42 rfl 0 rfl ?_
    obtain ⟨g1, h⟩ := gd h
    obtain ⟨a2, ha2, h⟩ := ob h
    refine r_getS (pc := 43) dX12_salt_43 fgX12_254 rfl g1 ha2 ?_
    refine r_iconst (pc := 46) dX12_salt_46 kc_iconst_3 ?_
    refine r_iload_n (pc := 47) dX12_salt_47 rfl 1 rfl ?_
    refine r_imul (pc := 48) dX12_salt_48 ?_
    refine r_iload_n (pc := 49) dX12_salt_49 rfl 2 rfl ?_
    refine r_iadd (pc := 50) dX12_salt_50 ?_
    obtain ⟨g3, h⟩ := gd h
    obtain ⟨g4, h⟩ := gd h
    refine r_iaload (pc := 51) dX12_salt_51 g3 g4 ?_
    refine r_istore (pc := 52) (L' := [(4, vI (I a2 (Int32.toNatClampNeg (((3 : Int32) * x1) + x2)))), (0, vR (some t)), (1, vI x1), (2, vI x2), (3, vI x3)]) dX12_salt_52 (by decide) rfl ?_
    refine r_aload_n (pc := 54) dX12_salt_54 rfl 1 rfl ?_
    refine r_getS (pc := 55) dX12_salt_55 fgX12_254 rfl g1 ha2 ?_
    refine r_iconst (pc := 58) dX12_salt_58 kc_iconst_3 ?_
    refine r_iload_n (pc := 59) dX12_salt_59 rfl 2 rfl ?_
    refine r_imul (pc := 60) dX12_salt_60 ?_
    refine r_iload_n (pc := 61) dX12_salt_61 rfl 3 rfl ?_
    refine r_iadd (pc := 62) dX12_salt_62 ?_
    refine r_iload_n (pc := 63) dX12_salt_63 rfl 4 rfl ?_
    refine r_iastore (pc := 64) dX12_salt_64 g3 g4 ?_
    refine r_iload (pc := 65) dX12_salt_65 0 rfl ?_
    cases h
    exact r_iret dX12_salt_67
  · have h := it h c
    refine r_bipush (pc := 39) dX12_salt_39 kc_bipush_m2 ?_
    cases h
    exact r_iret dX12_salt_41
def fX12_salt (σ : Shp) (I : Nat → Nat → Int32) (R : Nat → Nat → Option Nat) (t : Nat) (x1 : Int32) (x2 : Int32) (x3 : Int32) : Option ((Nat → Nat → Int32) × (Int32)) :=
  if (fX12_in x1 (0 : Int32) (5 : Int32)) = 0 then
    some (I, (-2 : Int32))
  else
    if (fX12_in x2 (0 : Int32) (2 : Int32)) = 0 then
      some (I, (-2 : Int32))
    else
      if (4 : Int32) ≤ x1 then
        fX12_salt_b33 σ R t I x1 x2 x3 x3 (0 : Int32) (999 : Int32)
      else
        fX12_salt_b33 σ R t I x1 x2 x3 x3 (0 : Int32) (99 : Int32)
theorem kX12_salt {G : Gx} {l : Launch} {σ : Shp} {I : Nat → Nat → Int32} {J : Nat → Nat → Int64} {D : Nat → Nat → UInt64} {R : Nat → Nat → Option Nat} {t : Nat} {x1 : Int32} {x2 : Int32} {x3 : Int32} {I9 : Nat → Nat → Int32} {r9 : Int32} (h : fX12_salt σ I R t x1 x2 x3 = some (I9, r9)) : Con G l yX12_salt cX12_salt 5 (some .int) 1 22 [vR (some t), vI x1, vI x2, vI x3] (σ, I, J, D, R) (σ, I9, J, D, R) (some (vI r9)) := by
  unfold fX12_salt at h
  refine Con.mk (by decide +kernel) rfl (Nat.le_of_ble_eq_true rfl) ?_
  show WX12_salt G l σ (σ, I9, J, D, R) (some (vI r9)) (σ, I, J, D, R) 0 _ []
  refine r_iload_n (pc := 0) dX12_salt_0 rfl 1 rfl ?_
  refine r_iconst (pc := 1) dX12_salt_1 kc_iconst_0 ?_
  refine r_iconst (pc := 2) dX12_salt_2 kc_iconst_5 ?_
  refine r_callS1 (pc := 3) (av := [vI x1, vI (0 : Int32), vI (5 : Int32)]) (S := []) dX12_salt_3 (kX12_in rfl) mkX12_322 mwX12_in rfl ⟨Nat.le_of_ble_eq_true rfl, Nat.le_of_ble_eq_true rfl⟩ (Nat.le_of_ble_eq_true rfl) ⟨Nat.le_refl _, Nat.le_refl _⟩ (fun b => b) ?_
  refine r_if_eq (pc := 6) (tgt := 39) dX12_salt_6 rfl (fun c => ?_) (fun c => ?_)
  · have h := it h c
    refine r_bipush (pc := 39) dX12_salt_39 kc_bipush_m2 ?_
    cases h
    exact r_iret dX12_salt_41
  · have h := ie h c
    refine r_iload_n (pc := 9) dX12_salt_9 rfl 2 rfl ?_
    refine r_iconst (pc := 10) dX12_salt_10 kc_iconst_0 ?_
    refine r_iconst (pc := 11) dX12_salt_11 kc_iconst_2 ?_
    refine r_callS1 (pc := 12) (av := [vI x2, vI (0 : Int32), vI (2 : Int32)]) (S := []) dX12_salt_12 (kX12_in rfl) mkX12_322 mwX12_in rfl ⟨Nat.le_of_ble_eq_true rfl, Nat.le_of_ble_eq_true rfl⟩ (Nat.le_of_ble_eq_true rfl) ⟨Nat.le_refl _, Nat.le_refl _⟩ (fun b => b) ?_
    refine r_if_eq (pc := 15) (tgt := 39) dX12_salt_15 rfl (fun c => ?_) (fun c => ?_)
    · have h := it h c
      refine r_bipush (pc := 39) dX12_salt_39 kc_bipush_m2 ?_
      cases h
      exact r_iret dX12_salt_41
    · have h := ie h c
      refine r_iload_n (pc := 18) dX12_salt_18 rfl 3 rfl ?_
      refine r_iconst (pc := 19) dX12_salt_19 kc_iconst_0 ?_
      refine r_iload_n (pc := 20) dX12_salt_20 rfl 1 rfl ?_
      refine r_iconst (pc := 21) dX12_salt_21 kc_iconst_4 ?_
      refine r_icmp_ge (pc := 22) (tgt := 30) dX12_salt_22 rfl (fun c => ?_) (fun c => ?_)
      · have h := it h c
        refine r_sipush (pc := 30) dX12_salt_30 kc_sipush_999 ?_
        refine r_sub [0, 1, 2, 3] rfl ?_
        exact wX12_salt_b33 h
      · have h := ie h c
        refine r_bipush (pc := 25) dX12_salt_25 kc_bipush_99 ?_
        refine r_goto (pc := 27) (tgt := 33) dX12_salt_27 rfl ?_
        refine r_sub [0, 1, 2, 3] rfl ?_
        exact wX12_salt_b33 h
abbrev WX12_common (G : Gx) (l : Launch) (σ0 : Shp) (X1 : Stt) (rv : Option SV) : Stt → Nat → List (Nat × SV) → List SV → Prop := Wm G l yX12_common cX12_common 10 (some .long) (fun _ => True) (rmx 0 0 σ0 X1.1) σ0 (Qmx G σ0 X1 rv)
def fX12_common_l28   : Nat → (Int64) → (Int64) → Option ((Int64))
  | 0, _, _ => none
  | n + 1, x4, x6 =>
    if x6 = (0 : Int64) then
      some x4
    else
      if ¬ x6 = 0 then
      let v2 := (x4 - x4 / x6 * x6)
      fX12_common_l28 n x6 v2
      else none
theorem wX12_common_l28 {G : Gx} {l : Launch} {σ : Shp} {I : Nat → Nat → Int32} {J : Nat → Nat → Int64} {D : Nat → Nat → UInt64} {R : Nat → Nat → Option Nat} {r9 : Int64} : ∀ (n : Nat) (x4 : Int64) (x6 : Int64), fX12_common_l28 n x4 x6 = some r9 → WX12_common G l σ (σ, I, J, D, R) (some (vL r9)) (σ, I, J, D, R) 28 [(4, vL x4), (6, vL x6)] [] := by
  intro n
  induction n with
  | zero =>
    intro x4 x6 h
    have h : none = some _ := h
    cases h
  | succ n ih =>
    intro x4 x6 h
    rw [fX12_common_l28] at h
    refine r_lload (pc := 28) dX12_common_28 1 rfl ?_
    refine r_lconst (pc := 30) dX12_common_30 kc_lconst_0 ?_
    refine r_lcmp (pc := 31) dX12_common_31 ?_
    refine r_if_eq (pc := 32) (tgt := 53) dX12_common_32 rfl (fun c => ?_) (fun c => ?_)
    · have h := it h (lgc_eq.mp c)
      refine r_lload (pc := 53) dX12_common_53 0 rfl ?_
      cases h
      exact r_lret dX12_common_55
    · have h := ie h (fun q => c (lgc_eq.mpr q))
      refine r_lload (pc := 35) dX12_common_35 0 rfl ?_
      refine r_lload (pc := 37) dX12_common_37 1 rfl ?_
      obtain ⟨g1, h⟩ := gd h
      refine r_lrem (pc := 39) dX12_common_39 g1 ?_
      refine r_lstore (pc := 40) (L' := [(8, vL (x4 - x4 / x6 * x6)), (4, vL x4), (6, vL x6)]) dX12_common_40 (by decide) rfl ?_
      refine r_lload (pc := 42) dX12_common_42 2 rfl ?_
      refine r_lstore (pc := 44) (L' := [(4, vL x6), (8, vL (x4 - x4 / x6 * x6)), (6, vL x6)]) dX12_common_44 (by decide) rfl ?_
      refine r_lload (pc := 46) dX12_common_46 1 rfl ?_
      refine r_lstore (pc := 48) (L' := [(6, vL (x4 - x4 / x6 * x6)), (4, vL x6), (8, vL (x4 - x4 / x6 * x6))]) dX12_common_48 (by decide) rfl ?_
      refine r_goto (pc := 50) (tgt := 28) dX12_common_50 rfl ?_
      refine r_sub [1, 0] rfl ?_
      exact ih _ _ h
def fX12_common  (x0 : Int64) (x2 : Int64) : Option ((Int64)) :=
  if (0 : Int64) ≤ x0 then
    if (0 : Int64) ≤ x2 then
      fX12_common_l28 FUx x0 x2
    else
      let v3 := (-x2)
      fX12_common_l28 FUx x0 v3
  else
    let v4 := (-x0)
    if (0 : Int64) ≤ x2 then
      fX12_common_l28 FUx v4 x2
    else
      let v5 := (-x2)
      fX12_common_l28 FUx v4 v5
theorem kX12_common {G : Gx} {l : Launch} {σ : Shp} {I : Nat → Nat → Int32} {J : Nat → Nat → Int64} {D : Nat → Nat → UInt64} {R : Nat → Nat → Option Nat} {x0 : Int64} {x2 : Int64} {r9 : Int64} (h : fX12_common x0 x2 = some r9) : Con G l yX12_common cX12_common 10 (some .long) 0 0 [vL x0, vL x2] (σ, I, J, D, R) (σ, I, J, D, R) (some (vL r9)) := by
  unfold fX12_common at h
  refine Con.mk (by decide +kernel) rfl (Nat.le_of_ble_eq_true rfl) ?_
  show WX12_common G l σ (σ, I, J, D, R) (some (vL r9)) (σ, I, J, D, R) 0 _ []
  refine r_lload_n (pc := 0) dX12_common_0 rfl 0 rfl ?_
  refine r_lconst (pc := 1) dX12_common_1 kc_lconst_0 ?_
  refine r_lcmp (pc := 2) dX12_common_2 ?_
  refine r_ifge (pc := 3) (tgt := 11) dX12_common_3 rfl (fun c => ?_) (fun c => ?_)
  · have h := it h (lgc_ge.mp c)
    refine r_lload_n (pc := 11) dX12_common_11 rfl 0 rfl ?_
    refine r_lstore (pc := 12) (L' := [(4, vL x0), (0, vL x0), (2, vL x2)]) dX12_common_12 (by decide) rfl ?_
    refine r_lload_n (pc := 14) dX12_common_14 rfl 2 rfl ?_
    refine r_lconst (pc := 15) dX12_common_15 kc_lconst_0 ?_
    refine r_lcmp (pc := 16) dX12_common_16 ?_
    refine r_ifge (pc := 17) (tgt := 25) dX12_common_17 rfl (fun c => ?_) (fun c => ?_)
    · have h := it h (lgc_ge.mp c)
      refine r_lload_n (pc := 25) dX12_common_25 rfl 2 rfl ?_
      refine r_lstore (pc := 26) (L' := [(6, vL x2), (4, vL x0), (0, vL x0), (2, vL x2)]) dX12_common_26 (by decide) rfl ?_
      refine r_sub [1, 0] rfl ?_
      exact wX12_common_l28 _ _ _ h
    · have h := ie h (fun q => c (lgc_ge.mpr q))
      refine r_lload_n (pc := 20) dX12_common_20 rfl 2 rfl ?_
      refine r_lneg (pc := 21) dX12_common_21 ?_
      refine r_goto (pc := 22) (tgt := 26) dX12_common_22 rfl ?_
      refine r_lstore (pc := 26) (L' := [(6, vL (-x2)), (4, vL x0), (0, vL x0), (2, vL x2)]) dX12_common_26 (by decide) rfl ?_
      refine r_sub [1, 0] rfl ?_
      exact wX12_common_l28 _ _ _ h
  · have h := ie h (fun q => c (lgc_ge.mpr q))
    refine r_lload_n (pc := 6) dX12_common_6 rfl 0 rfl ?_
    refine r_lneg (pc := 7) dX12_common_7 ?_
    refine r_goto (pc := 8) (tgt := 12) dX12_common_8 rfl ?_
    refine r_lstore (pc := 12) (L' := [(4, vL (-x0)), (0, vL x0), (2, vL x2)]) dX12_common_12 (by decide) rfl ?_
    refine r_lload_n (pc := 14) dX12_common_14 rfl 2 rfl ?_
    refine r_lconst (pc := 15) dX12_common_15 kc_lconst_0 ?_
    refine r_lcmp (pc := 16) dX12_common_16 ?_
    refine r_ifge (pc := 17) (tgt := 25) dX12_common_17 rfl (fun c => ?_) (fun c => ?_)
    · have h := it h (lgc_ge.mp c)
      refine r_lload_n (pc := 25) dX12_common_25 rfl 2 rfl ?_
      refine r_lstore (pc := 26) (L' := [(6, vL x2), (4, vL (-x0)), (0, vL x0), (2, vL x2)]) dX12_common_26 (by decide) rfl ?_
      refine r_sub [1, 0] rfl ?_
      exact wX12_common_l28 _ _ _ h
    · have h := ie h (fun q => c (lgc_ge.mpr q))
      refine r_lload_n (pc := 20) dX12_common_20 rfl 2 rfl ?_
      refine r_lneg (pc := 21) dX12_common_21 ?_
      refine r_goto (pc := 22) (tgt := 26) dX12_common_22 rfl ?_
      refine r_lstore (pc := 26) (L' := [(6, vL (-x2)), (4, vL (-x0)), (0, vL x0), (2, vL x2)]) dX12_common_26 (by decide) rfl ?_
      refine r_sub [1, 0] rfl ?_
      exact wX12_common_l28 _ _ _ h
abbrev WX12_fraction (G : Gx) (l : Launch) (σ0 : Shp) (X1 : Stt) (rv : Option SV) : Stt → Nat → List (Nat × SV) → List SV → Prop := Wm G l yX12_fraction cX12_fraction 8 none (fun _ => True) (rmx 1 29 σ0 X1.1) σ0 (Qmx G σ0 X1 rv)
def fX12_fraction_b23  (σ : Shp) (R : Nat → Nat → Option Nat) (t : Nat) (J : Nat → Nat → Int64) (x1 : Int32) (x2 : Int64) (x4 : Int64) (s0 : Int64) : Option ((Nat → Nat → Int64)) :=
  if kdx σ t = 13 then
  ((R t 111) : Option Nat).bind fun a4 =>
  if ¬ s0 = 0 then
  if kdx σ a4 = 21 then
  if ¬ (x1 < 0 ∨ lnx σ a4 ≤ Int32.toNatClampNeg x1) then
  let J8 := u2 J a4 (Int32.toNatClampNeg x1) (x2 / s0)
  ((R t 112) : Option Nat).bind fun a9 =>
  if kdx σ a9 = 21 then
  if ¬ (x1 < 0 ∨ lnx σ a9 ≤ Int32.toNatClampNeg x1) then
  let J12 := u2 J8 a9 (Int32.toNatClampNeg x1) (x4 / s0)
  some J12
  else none
  else none
  else none
  else none
  else none
  else none
theorem wX12_fraction_b23 {G : Gx} {l : Launch} {σ : Shp} {I : Nat → Nat → Int32} {J : Nat → Nat → Int64} {D : Nat → Nat → UInt64} {R : Nat → Nat → Option Nat} {t : Nat} {J9 : Nat → Nat → Int64} {x1 : Int32} {x2 : Int64} {x4 : Int64} {s0 : Int64} (h : fX12_fraction_b23 σ R t J x1 x2 x4 s0 = some J9) : WX12_fraction G l σ (σ, I, J9, D, R) none (σ, I, J, D, R) 23 [(0, vR (some t)), (1, vI x1), (2, vL x2), (4, vL x4)] [vL s0] := by
  unfold fX12_fraction_b23 at h
  refine r_lstore (pc := 23) (L' := [(6, vL s0), (0, vR (some t)), (1, vI x1), (2, vL x2), (4, vL x4)]) dX12_fraction_23 (by decide) rfl ?_
  refine r_aload_n (pc := 25) dX12_fraction_25 rfl 1 rfl ?_
  obtain ⟨g3, h⟩ := gd h
  obtain ⟨a4, ha4, h⟩ := ob h
  refine r_getS (pc := 26) dX12_fraction_26 fgX12_257 rfl g3 ha4 ?_
  refine r_iload_n (pc := 29) dX12_fraction_29 rfl 2 rfl ?_
  refine r_lload_n (pc := 30) dX12_fraction_30 rfl 3 rfl ?_
  refine r_lload (pc := 31) dX12_fraction_31 0 rfl ?_
  obtain ⟨g5, h⟩ := gd h
  refine r_ldiv (pc := 33) dX12_fraction_33 g5 ?_
  obtain ⟨g6, h⟩ := gd h
  obtain ⟨g7, h⟩ := gd h
  refine r_lastore (pc := 34) dX12_fraction_34 g6 g7 ?_
  refine r_aload_n (pc := 35) dX12_fraction_35 rfl 1 rfl ?_
  obtain ⟨a9, ha9, h⟩ := ob h
  refine r_getS (pc := 36) dX12_fraction_36 fgX12_260 rfl g3 ha9 ?_
  refine r_iload_n (pc := 39) dX12_fraction_39 rfl 2 rfl ?_
  refine r_lload (pc := 40) dX12_fraction_40 4 rfl ?_
  refine r_lload (pc := 42) dX12_fraction_42 0 rfl ?_
  refine r_ldiv (pc := 44) dX12_fraction_44 g5 ?_
  obtain ⟨g10, h⟩ := gd h
  obtain ⟨g11, h⟩ := gd h
  refine r_lastore (pc := 45) dX12_fraction_45 g10 g11 ?_
  cases h
  exact r_vret dX12_fraction_46
def fX12_fraction (σ : Shp) (J : Nat → Nat → Int64) (R : Nat → Nat → Option Nat) (t : Nat) (x1 : Int32) (x2 : Int64) (x4 : Int64) : Option ((Nat → Nat → Int64)) :=
  (fX12_common x2 x4).bind fun r1 =>
  if (0 : Int64) ≤ x4 then
    fX12_fraction_b23 σ R t J x1 x2 x4 r1
  else
    fX12_fraction_b23 σ R t J x1 x2 x4 (-r1)
theorem kX12_fraction {G : Gx} {l : Launch} {σ : Shp} {I : Nat → Nat → Int32} {J : Nat → Nat → Int64} {D : Nat → Nat → UInt64} {R : Nat → Nat → Option Nat} {t : Nat} {x1 : Int32} {x2 : Int64} {x4 : Int64} {J9 : Nat → Nat → Int64} (h : fX12_fraction σ J R t x1 x2 x4 = some J9) : Con G l yX12_fraction cX12_fraction 8 none 1 29 [vR (some t), vI x1, vL x2, vL x4] (σ, I, J, D, R) (σ, I, J9, D, R) none := by
  unfold fX12_fraction at h
  refine Con.mk (by decide +kernel) rfl (Nat.le_of_ble_eq_true rfl) ?_
  show WX12_fraction G l σ (σ, I, J9, D, R) none (σ, I, J, D, R) 0 _ []
  refine r_lload_n (pc := 0) dX12_fraction_0 rfl 2 rfl ?_
  refine r_lload (pc := 1) dX12_fraction_1 3 rfl ?_
  obtain ⟨r1, hc2, h⟩ := ob h
  refine r_callS1 (pc := 3) (av := [vL x2, vL x4]) (S := []) dX12_fraction_3 (kX12_common hc2) mkX12_734 mwX12_common rfl ⟨Nat.le_of_ble_eq_true rfl, Nat.le_of_ble_eq_true rfl⟩ (Nat.le_of_ble_eq_true rfl) ⟨Nat.le_refl _, Nat.le_refl _⟩ (fun b => b) ?_
  refine r_lstore (pc := 6) (L' := [(6, vL r1), (0, vR (some t)), (1, vI x1), (2, vL x2), (4, vL x4)]) dX12_fraction_6 (by decide) rfl ?_
  refine r_lload (pc := 8) dX12_fraction_8 4 rfl ?_
  refine r_lconst (pc := 10) dX12_fraction_10 kc_lconst_0 ?_
  refine r_lcmp (pc := 11) dX12_fraction_11 ?_
  refine r_ifge (pc := 12) (tgt := 21) dX12_fraction_12 rfl (fun c => ?_) (fun c => ?_)
  · have h := it h (lgc_ge.mp c)
    refine r_lload (pc := 21) dX12_fraction_21 0 rfl ?_
    refine r_sub [1, 2, 3, 4] rfl ?_
    exact wX12_fraction_b23 h
  · have h := ie h (fun q => c (lgc_ge.mpr q))
    refine r_lload (pc := 15) dX12_fraction_15 0 rfl ?_
    refine r_lneg (pc := 17) dX12_fraction_17 ?_
    refine r_goto (pc := 18) (tgt := 23) dX12_fraction_18 rfl ?_
    refine r_sub [1, 2, 3, 4] rfl ?_
    exact wX12_fraction_b23 h
abbrev WX12_less (G : Gx) (l : Launch) (σ0 : Shp) (X1 : Stt) (rv : Option SV) : Stt → Nat → List (Nat × SV) → List SV → Prop := Wm G l yX12_less cX12_less 17 none (fun _ => True) (rmx 2 56 σ0 X1.1) σ0 (Qmx G σ0 X1 rv)
def fX12_less_b55  (σ : Shp) (R : Nat → Nat → Option Nat) (t : Nat) (J : Nat → Nat → Int64) (x1 : Int32) (x2 : Int64) (x4 : Int64) (x6 : Int32) (x7 : Int64) (s0 : Int64) : Option ((Nat → Nat → Int64)) :=
  if ¬ x7 = 0 then
  if kdx σ t = 13 then
  ((R t 111) : Option Nat).bind fun a14 =>
  if kdx σ a14 = 21 then
  if ¬ (x6 < 0 ∨ lnx σ a14 ≤ Int32.toNatClampNeg x6) then
  if ¬ s0 = 0 then
  let v18 := ((x2 / x7) * ((J a14 (Int32.toNatClampNeg x6)) / s0))
  ((R t 112) : Option Nat).bind fun a19 =>
  if kdx σ a19 = 21 then
  if ¬ (x6 < 0 ∨ lnx σ a19 ≤ Int32.toNatClampNeg x6) then
  let v22 := ((x4 / s0) * ((J a19 (Int32.toNatClampNeg x6)) / x7))
  if ¬ (x1 < 0 ∨ lnx σ a19 ≤ Int32.toNatClampNeg x1) then
  (fX12_common (J a19 (Int32.toNatClampNeg x1)) v22).bind fun r24 =>
  if ¬ (x1 < 0 ∨ lnx σ a14 ≤ Int32.toNatClampNeg x1) then
  if ¬ r24 = 0 then
  (fX12_fraction σ J R t x1 (((J a14 (Int32.toNatClampNeg x1)) * (v22 / r24)) - (v18 * ((J a19 (Int32.toNatClampNeg x1)) / r24))) (((J a19 (Int32.toNatClampNeg x1)) / r24) * v22)).bind fun J28 =>
  some J28
  else none
  else none
  else none
  else none
  else none
  else none
  else none
  else none
  else none
  else none
theorem wX12_less_b55 {G : Gx} {l : Launch} {σ : Shp} {I : Nat → Nat → Int32} {J : Nat → Nat → Int64} {D : Nat → Nat → UInt64} {R : Nat → Nat → Option Nat} {t : Nat} {J9 : Nat → Nat → Int64} {x1 : Int32} {x2 : Int64} {x4 : Int64} {x6 : Int32} {x7 : Int64} {s0 : Int64} (h : fX12_less_b55 σ R t J x1 x2 x4 x6 x7 s0 = some J9) : WX12_less G l σ (σ, I, J9, D, R) none (σ, I, J, D, R) 55 [(0, vR (some t)), (1, vI x1), (2, vL x2), (4, vL x4), (6, vI x6), (7, vL x7)] [vL s0] := by
  unfold fX12_less_b55 at h
  refine r_lstore (pc := 55) (L' := [(9, vL s0), (0, vR (some t)), (1, vI x1), (2, vL x2), (4, vL x4), (6, vI x6), (7, vL x7)]) dX12_less_55 (by decide) rfl ?_
  refine r_lload_n (pc := 57) dX12_less_57 rfl 3 rfl ?_
  refine r_lload (pc := 58) dX12_less_58 6 rfl ?_
  obtain ⟨g12, h⟩ := gd h
  refine r_ldiv (pc := 60) dX12_less_60 g12 ?_
  refine r_aload_n (pc := 61) dX12_less_61 rfl 1 rfl ?_
  obtain ⟨g13, h⟩ := gd h
  obtain ⟨a14, ha14, h⟩ := ob h
  refine r_getS (pc := 62) dX12_less_62 fgX12_257 rfl g13 ha14 ?_
  refine r_iload (pc := 65) dX12_less_65 5 rfl ?_
  obtain ⟨g15, h⟩ := gd h
  obtain ⟨g16, h⟩ := gd h
  refine r_laload (pc := 67) dX12_less_67 g15 g16 ?_
  refine r_lload (pc := 68) dX12_less_68 0 rfl ?_
  obtain ⟨g17, h⟩ := gd h
  refine r_ldiv (pc := 70) dX12_less_70 g17 ?_
  refine r_lmul (pc := 71) dX12_less_71 ?_
  refine r_lstore (pc := 72) (L' := [(11, vL ((x2 / x7) * ((J a14 (Int32.toNatClampNeg x6)) / s0))), (9, vL s0), (0, vR (some t)), (1, vI x1), (2, vL x2), (4, vL x4), (6, vI x6), (7, vL x7)]) dX12_less_72 (by decide) rfl ?_
  refine r_lload (pc := 74) dX12_less_74 5 rfl ?_
  refine r_lload (pc := 76) dX12_less_76 1 rfl ?_
  refine r_ldiv (pc := 78) dX12_less_78 g17 ?_
  refine r_aload_n (pc := 79) dX12_less_79 rfl 2 rfl ?_
  obtain ⟨a19, ha19, h⟩ := ob h
  refine r_getS (pc := 80) dX12_less_80 fgX12_260 rfl g13 ha19 ?_
  refine r_iload (pc := 83) dX12_less_83 6 rfl ?_
  obtain ⟨g20, h⟩ := gd h
  obtain ⟨g21, h⟩ := gd h
  refine r_laload (pc := 85) dX12_less_85 g20 g21 ?_
  refine r_lload (pc := 86) dX12_less_86 7 rfl ?_
  refine r_ldiv (pc := 88) dX12_less_88 g12 ?_
  refine r_lmul (pc := 89) dX12_less_89 ?_
  refine r_lstore (pc := 90) (L' := [(13, vL ((x4 / s0) * ((J a19 (Int32.toNatClampNeg x6)) / x7))), (11, vL ((x2 / x7) * ((J a14 (Int32.toNatClampNeg x6)) / s0))), (9, vL s0), (0, vR (some t)), (1, vI x1), (2, vL x2), (4, vL x4), (6, vI x6), (7, vL x7)]) dX12_less_90 (by decide) rfl ?_
  refine r_aload_n (pc := 92) dX12_less_92 rfl 3 rfl ?_
  refine r_getS (pc := 93) dX12_less_93 fgX12_260 rfl g13 ha19 ?_
  refine r_iload_n (pc := 96) dX12_less_96 rfl 4 rfl ?_
  obtain ⟨g23, h⟩ := gd h
  refine r_laload (pc := 97) dX12_less_97 g20 g23 ?_
  refine r_lload (pc := 98) dX12_less_98 0 rfl ?_
  obtain ⟨r24, hc25, h⟩ := ob h
  refine r_callS1 (pc := 100) (av := [vL (J a19 (Int32.toNatClampNeg x1)), vL ((x4 / s0) * ((J a19 (Int32.toNatClampNeg x6)) / x7))]) (S := []) dX12_less_100 (kX12_common hc25) mkX12_734 mwX12_common rfl ⟨Nat.le_of_ble_eq_true rfl, Nat.le_of_ble_eq_true rfl⟩ (Nat.le_of_ble_eq_true rfl) ⟨Nat.le_refl _, Nat.le_refl _⟩ (fun b => b) ?_
  refine r_lstore (pc := 103) (L' := [(15, vL r24), (13, vL ((x4 / s0) * ((J a19 (Int32.toNatClampNeg x6)) / x7))), (11, vL ((x2 / x7) * ((J a14 (Int32.toNatClampNeg x6)) / s0))), (9, vL s0), (0, vR (some t)), (1, vI x1), (2, vL x2), (4, vL x4), (6, vI x6), (7, vL x7)]) dX12_less_103 (by decide) rfl ?_
  refine r_aload_n (pc := 105) dX12_less_105 rfl 4 rfl ?_
  refine r_iload_n (pc := 106) dX12_less_106 rfl 5 rfl ?_
  refine r_aload_n (pc := 107) dX12_less_107 rfl 4 rfl ?_
  refine r_getS (pc := 108) dX12_less_108 fgX12_257 rfl g13 ha14 ?_
  refine r_iload_n (pc := 111) dX12_less_111 rfl 5 rfl ?_
  obtain ⟨g26, h⟩ := gd h
  refine r_laload (pc := 112) dX12_less_112 g15 g26 ?_
  refine r_lload (pc := 113) dX12_less_113 1 rfl ?_
  refine r_lload (pc := 115) dX12_less_115 0 rfl ?_
  obtain ⟨g27, h⟩ := gd h
  refine r_ldiv (pc := 117) dX12_less_117 g27 ?_
  refine r_lmul (pc := 118) dX12_less_118 ?_
  refine r_lload (pc := 119) dX12_less_119 2 rfl ?_
  refine r_aload_n (pc := 121) dX12_less_121 rfl 4 rfl ?_
  refine r_getS (pc := 122) dX12_less_122 fgX12_260 rfl g13 ha19 ?_
  refine r_iload_n (pc := 125) dX12_less_125 rfl 5 rfl ?_
  refine r_laload (pc := 126) dX12_less_126 g20 g23 ?_
  refine r_lload (pc := 127) dX12_less_127 0 rfl ?_
  refine r_ldiv (pc := 129) dX12_less_129 g27 ?_
  refine r_lmul (pc := 130) dX12_less_130 ?_
  refine r_lsub (pc := 131) dX12_less_131 ?_
  refine r_aload_n (pc := 132) dX12_less_132 rfl 4 rfl ?_
  refine r_getS (pc := 133) dX12_less_133 fgX12_260 rfl g13 ha19 ?_
  refine r_iload_n (pc := 136) dX12_less_136 rfl 5 rfl ?_
  refine r_laload (pc := 137) dX12_less_137 g20 g23 ?_
  refine r_lload (pc := 138) dX12_less_138 0 rfl ?_
  refine r_ldiv (pc := 140) dX12_less_140 g27 ?_
  refine r_lload (pc := 141) dX12_less_141 1 rfl ?_
  refine r_lmul (pc := 143) dX12_less_143 ?_
  obtain ⟨J28, hc29, h⟩ := ob h
  refine r_callV0 (pc := 144) (av := [vI x1, vL (((J a14 (Int32.toNatClampNeg x1)) * (((x4 / s0) * ((J a19 (Int32.toNatClampNeg x6)) / x7)) / r24)) - (((x2 / x7) * ((J a14 (Int32.toNatClampNeg x6)) / s0)) * ((J a19 (Int32.toNatClampNeg x1)) / r24))), vL (((J a19 (Int32.toNatClampNeg x1)) / r24) * ((x4 / s0) * ((J a19 (Int32.toNatClampNeg x6)) / x7)))]) (S := []) dX12_less_144 (kX12_fraction hc29) g13 rfl mkX12_737 mwX12_fraction rfl ⟨Nat.le_of_ble_eq_true rfl, Nat.le_of_ble_eq_true rfl⟩ (Nat.le_of_ble_eq_true rfl) ⟨Nat.le_refl _, Nat.le_refl _⟩ (fun b => b) ?_
  cases h
  exact r_vret dX12_less_147
def fX12_less (σ : Shp) (J : Nat → Nat → Int64) (R : Nat → Nat → Option Nat) (t : Nat) (x1 : Int32) (x2 : Int64) (x4 : Int64) (x6 : Int32) : Option ((Nat → Nat → Int64)) :=
  if kdx σ t = 13 then
  ((R t 112) : Option Nat).bind fun a2 =>
  if kdx σ a2 = 21 then
  if ¬ (x6 < 0 ∨ lnx σ a2 ≤ Int32.toNatClampNeg x6) then
  (fX12_common x2 (J a2 (Int32.toNatClampNeg x6))).bind fun r5 =>
  ((R t 111) : Option Nat).bind fun a7 =>
  if kdx σ a7 = 21 then
  if ¬ (x6 < 0 ∨ lnx σ a7 ≤ Int32.toNatClampNeg x6) then
  (fX12_common (J a7 (Int32.toNatClampNeg x6)) x4).bind fun r10 =>
  if r5 = (0 : Int64) then
    if r10 = (0 : Int64) then
      fX12_less_b55 σ R t J x1 x2 x4 x6 (1 : Int64) (1 : Int64)
    else
      fX12_less_b55 σ R t J x1 x2 x4 x6 (1 : Int64) r10
  else
    if r10 = (0 : Int64) then
      fX12_less_b55 σ R t J x1 x2 x4 x6 r5 (1 : Int64)
    else
      fX12_less_b55 σ R t J x1 x2 x4 x6 r5 r10
  else none
  else none
  else none
  else none
  else none
theorem kX12_less {G : Gx} {l : Launch} {σ : Shp} {I : Nat → Nat → Int32} {J : Nat → Nat → Int64} {D : Nat → Nat → UInt64} {R : Nat → Nat → Option Nat} {t : Nat} {x1 : Int32} {x2 : Int64} {x4 : Int64} {x6 : Int32} {J9 : Nat → Nat → Int64} (h : fX12_less σ J R t x1 x2 x4 x6 = some J9) : Con G l yX12_less cX12_less 17 none 2 56 [vR (some t), vI x1, vL x2, vL x4, vI x6] (σ, I, J, D, R) (σ, I, J9, D, R) none := by
  unfold fX12_less at h
  refine Con.mk (by decide +kernel) rfl (Nat.le_of_ble_eq_true rfl) ?_
  show WX12_less G l σ (σ, I, J9, D, R) none (σ, I, J, D, R) 0 _ []
  refine r_lload_n (pc := 0) dX12_less_0 rfl 2 rfl ?_
  refine r_aload_n (pc := 1) dX12_less_1 rfl 0 rfl ?_
  obtain ⟨g1, h⟩ := gd h
  obtain ⟨a2, ha2, h⟩ := ob h
  refine r_getS (pc := 2) dX12_less_2 fgX12_260 rfl g1 ha2 ?_
  refine r_iload (pc := 5) dX12_less_5 4 rfl ?_
  obtain ⟨g3, h⟩ := gd h
  obtain ⟨g4, h⟩ := gd h
  refine r_laload (pc := 7) dX12_less_7 g3 g4 ?_
  obtain ⟨r5, hc6, h⟩ := ob h
  refine r_callS1 (pc := 8) (av := [vL x2, vL (J a2 (Int32.toNatClampNeg x6))]) (S := []) dX12_less_8 (kX12_common hc6) mkX12_734 mwX12_common rfl ⟨Nat.le_of_ble_eq_true rfl, Nat.le_of_ble_eq_true rfl⟩ (Nat.le_of_ble_eq_true rfl) ⟨Nat.le_refl _, Nat.le_refl _⟩ (fun b => b) ?_
  refine r_lstore (pc := 11) (L' := [(7, vL r5), (0, vR (some t)), (1, vI x1), (2, vL x2), (4, vL x4), (6, vI x6)]) dX12_less_11 (by decide) rfl ?_
  refine r_aload_n (pc := 13) dX12_less_13 rfl 1 rfl ?_
  obtain ⟨a7, ha7, h⟩ := ob h
  refine r_getS (pc := 14) dX12_less_14 fgX12_257 rfl g1 ha7 ?_
  refine r_iload (pc := 17) dX12_less_17 5 rfl ?_
  obtain ⟨g8, h⟩ := gd h
  obtain ⟨g9, h⟩ := gd h
  refine r_laload (pc := 19) dX12_less_19 g8 g9 ?_
  refine r_lload (pc := 20) dX12_less_20 4 rfl ?_
  obtain ⟨r10, hc11, h⟩ := ob h
  refine r_callS1 (pc := 22) (av := [vL (J a7 (Int32.toNatClampNeg x6)), vL x4]) (S := []) dX12_less_22 (kX12_common hc11) mkX12_734 mwX12_common rfl ⟨Nat.le_of_ble_eq_true rfl, Nat.le_of_ble_eq_true rfl⟩ (Nat.le_of_ble_eq_true rfl) ⟨Nat.le_refl _, Nat.le_refl _⟩ (fun b => b) ?_
  refine r_lstore (pc := 25) (L' := [(9, vL r10), (7, vL r5), (0, vR (some t)), (1, vI x1), (2, vL x2), (4, vL x4), (6, vI x6)]) dX12_less_25 (by decide) rfl ?_
  refine r_lload (pc := 27) dX12_less_27 1 rfl ?_
  refine r_lconst (pc := 29) dX12_less_29 kc_lconst_0 ?_
  refine r_lcmp (pc := 30) dX12_less_30 ?_
  refine r_ifne (pc := 31) (tgt := 38) dX12_less_31 rfl (fun c => ?_) (fun c => ?_)
  · have h := ie h (fun q => c (lgc_eq.mpr q))
    refine r_lload (pc := 38) dX12_less_38 1 rfl ?_
    refine r_lstore (pc := 40) (L' := [(7, vL r5), (9, vL r10), (0, vR (some t)), (1, vI x1), (2, vL x2), (4, vL x4), (6, vI x6)]) dX12_less_40 (by decide) rfl ?_
    refine r_lload (pc := 42) dX12_less_42 1 rfl ?_
    refine r_lconst (pc := 44) dX12_less_44 kc_lconst_0 ?_
    refine r_lcmp (pc := 45) dX12_less_45 ?_
    refine r_ifne (pc := 46) (tgt := 53) dX12_less_46 rfl (fun c => ?_) (fun c => ?_)
    · have h := ie h (fun q => c (lgc_eq.mpr q))
      refine r_lload (pc := 53) dX12_less_53 1 rfl ?_
      refine r_sub [2, 3, 4, 5, 6, 0] rfl ?_
      exact wX12_less_b55 h
    · have h := it h (lgc_eq.mp c)
      refine r_lconst (pc := 49) dX12_less_49 kc_lconst_1 ?_
      refine r_goto (pc := 50) (tgt := 55) dX12_less_50 rfl ?_
      refine r_sub [2, 3, 4, 5, 6, 0] rfl ?_
      exact wX12_less_b55 h
  · have h := it h (lgc_eq.mp c)
    refine r_lconst (pc := 34) dX12_less_34 kc_lconst_1 ?_
    refine r_goto (pc := 35) (tgt := 40) dX12_less_35 rfl ?_
    refine r_lstore (pc := 40) (L' := [(7, vL (1 : Int64)), (9, vL r10), (0, vR (some t)), (1, vI x1), (2, vL x2), (4, vL x4), (6, vI x6)]) dX12_less_40 (by decide) rfl ?_
    refine r_lload (pc := 42) dX12_less_42 1 rfl ?_
    refine r_lconst (pc := 44) dX12_less_44 kc_lconst_0 ?_
    refine r_lcmp (pc := 45) dX12_less_45 ?_
    refine r_ifne (pc := 46) (tgt := 53) dX12_less_46 rfl (fun c => ?_) (fun c => ?_)
    · have h := ie h (fun q => c (lgc_eq.mpr q))
      refine r_lload (pc := 53) dX12_less_53 1 rfl ?_
      refine r_sub [2, 3, 4, 5, 6, 0] rfl ?_
      exact wX12_less_b55 h
    · have h := it h (lgc_eq.mp c)
      refine r_lconst (pc := 49) dX12_less_49 kc_lconst_1 ?_
      refine r_goto (pc := 50) (tgt := 55) dX12_less_50 rfl ?_
      refine r_sub [2, 3, 4, 5, 6, 0] rfl ?_
      exact wX12_less_b55 h
