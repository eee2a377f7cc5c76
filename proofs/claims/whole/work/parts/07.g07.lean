abbrev WX12_alike (G : Gx) (l : Launch) (σ0 : Shp) (X1 : Stt) (rv : Option SV) : Stt → Nat → List (Nat × SV) → List SV → Prop := Wm G l yX12_alike cX12_alike 6 (some .int) (fun _ => True) (rmx 3 76 σ0 X1.1) σ0 (Qmx G σ0 X1 rv)
def fX12_alike (σ : Shp) (I : Nat → Nat → Int32) (J : Nat → Nat → Int64) (R : Nat → Nat → Option Nat) (t : Nat) (x1 : Int32) (x2 : Int32) : Option ((Int32)) :=
  if (fX12_isBin x1) = 0 then
    some (-2 : Int32)
  else
    if (fX12_isBin x2) = 0 then
      some (-2 : Int32)
    else
      if kdx σ t = 13 then
      ((R t 3) : Option Nat).bind fun a2 =>
      if kdx σ a2 = 20 then
      if ¬ (x1 < 0 ∨ lnx σ a2 ≤ Int32.toNatClampNeg x1) then
      let v5 := (I a2 (Int32.toNatClampNeg x1))
      if ¬ (x2 < 0 ∨ lnx σ a2 ≤ Int32.toNatClampNeg x2) then
      let v7 := (I a2 (Int32.toNatClampNeg x2))
      if v5 = v7 then
        some (2 : Int32)
      else
        if v5 = 0 then
          some (0 : Int32)
        else
          if v7 = 0 then
            some (0 : Int32)
          else
            ((R t 4) : Option Nat).bind fun a8 =>
            if kdx σ a8 = 22 then
            if ¬ (v5 < 0 ∨ lnx σ a8 ≤ Int32.toNatClampNeg v5) then
            if ¬ (v7 < 0 ∨ lnx σ a8 ≤ Int32.toNatClampNeg v7) then
            if (I a8 (Int32.toNatClampNeg v5)) = (I a8 (Int32.toNatClampNeg v7)) then
              if (I a8 (Int32.toNatClampNeg v5)) = (16 : Int32) then
                some (0 : Int32)
              else
                (fX12_isRow σ I R t v5).bind fun r12 =>
                if r12 = 0 then
                  if (I a8 (Int32.toNatClampNeg v5)) = (17 : Int32) then
                    (fX12_areCardsAlike σ I J R t v5 v7).bind fun r16 =>
                    if r16 = 0 then
                      some (0 : Int32)
                    else
                      some (1 : Int32)
                  else
                    (fX12_arePlacesAlike σ I J R t v5 v7).bind fun r14 =>
                    if r14 = 0 then
                      some (0 : Int32)
                    else
                      some (1 : Int32)
                else
                  (fX12_areRowsAlike σ I J R t v5 v7).bind fun r18 =>
                  if r18 = 0 then
                    some (0 : Int32)
                  else
                    some (1 : Int32)
            else
              some (0 : Int32)
            else none
            else none
            else none
      else none
      else none
      else none
      else none
theorem kX12_alike {G : Gx} {l : Launch} {σ : Shp} {I : Nat → Nat → Int32} {J : Nat → Nat → Int64} {D : Nat → Nat → UInt64} {R : Nat → Nat → Option Nat} {t : Nat} {x1 : Int32} {x2 : Int32} {r9 : Int32} (h : fX12_alike σ I J R t x1 x2 = some r9) : Con G l yX12_alike cX12_alike 6 (some .int) 3 76 [vR (some t), vI x1, vI x2] (σ, I, J, D, R) (σ, I, J, D, R) (some (vI r9)) := by
  unfold fX12_alike at h
  refine Con.mk (by decide +kernel) rfl (Nat.le_of_ble_eq_true rfl) ?_
  show WX12_alike G l σ (σ, I, J, D, R) (some (vI r9)) (σ, I, J, D, R) 0 _ []
  refine r_iload_n (pc := 0) dX12_alike_0 rfl 1 rfl ?_
  refine r_callS1 (pc := 1) (av := [vI x1]) (S := []) dX12_alike_1 (kX12_isBin rfl) mkX12_345 mwX12_isBin rfl ⟨Nat.le_of_ble_eq_true rfl, Nat.le_of_ble_eq_true rfl⟩ (Nat.le_of_ble_eq_true rfl) ⟨Nat.le_refl _, Nat.le_refl _⟩ (fun b => b) ?_
  refine r_if_eq (pc := 4) (tgt := 14) dX12_alike_4 rfl (fun c => ?_) (fun c => ?_)
  · have h := it h c
    refine r_bipush (pc := 14) dX12_alike_14 kc_bipush_m2 ?_
    cases h
    exact r_iret dX12_alike_16
  · have h := ie h c
    refine r_iload_n (pc := 7) dX12_alike_7 rfl 2 rfl ?_
    refine r_callS1 (pc := 8) (av := [vI x2]) (S := []) dX12_alike_8 (kX12_isBin rfl) mkX12_345 mwX12_isBin rfl ⟨Nat.le_of_ble_eq_true rfl, Nat.le_of_ble_eq_true rfl⟩ (Nat.le_of_ble_eq_true rfl) ⟨Nat.le_refl _, Nat.le_refl _⟩ (fun b => b) ?_
    refine r_ifne (pc := 11) (tgt := 17) dX12_alike_11 rfl (fun c => ?_) (fun c => ?_)
    · have h := ie h c
      refine r_aload_n (pc := 17) dX12_alike_17 rfl 0 rfl ?_
      obtain ⟨g1, h⟩ := gd h
      obtain ⟨a2, ha2, h⟩ := ob h
      refine r_getS (pc := 18) dX12_alike_18 fgX12_9 rfl g1 ha2 ?_
      refine r_iload_n (pc := 21) dX12_alike_21 rfl 1 rfl ?_
      obtain ⟨g3, h⟩ := gd h
      obtain ⟨g4, h⟩ := gd h
      refine r_iaload (pc := 22) dX12_alike_22 g3 g4 ?_
      refine r_istore_n (pc := 23) (L' := [(3, vI (I a2 (Int32.toNatClampNeg x1))), (0, vR (some t)), (1, vI x1), (2, vI x2)]) dX12_alike_23 rfl (by decide) rfl ?_
      refine r_aload_n (pc := 24) dX12_alike_24 rfl 1 rfl ?_
      refine r_getS (pc := 25) dX12_alike_25 fgX12_9 rfl g1 ha2 ?_
      refine r_iload_n (pc := 28) dX12_alike_28 rfl 3 rfl ?_
      obtain ⟨g6, h⟩ := gd h
      refine r_iaload (pc := 29) dX12_alike_29 g3 g6 ?_
      refine r_istore (pc := 30) (L' := [(4, vI (I a2 (Int32.toNatClampNeg x2))), (3, vI (I a2 (Int32.toNatClampNeg x1))), (0, vR (some t)), (1, vI x1), (2, vI x2)]) dX12_alike_30 (by decide) rfl ?_
      refine r_iload_n (pc := 32) dX12_alike_32 rfl 1 rfl ?_
      refine r_iload (pc := 33) dX12_alike_33 0 rfl ?_
      refine r_icmp_ne (pc := 35) (tgt := 40) dX12_alike_35 rfl (fun c => ?_) (fun c => ?_)
      · have h := ie h c
        refine r_iload_n (pc := 40) dX12_alike_40 rfl 1 rfl ?_
        refine r_if_eq (pc := 41) (tgt := 76) dX12_alike_41 rfl (fun c => ?_) (fun c => ?_)
        · have h := it h c
          refine r_iconst (pc := 76) dX12_alike_76 kc_iconst_0 ?_
          cases h
          exact r_iret dX12_alike_77
        · have h := ie h c
          refine r_iload (pc := 44) dX12_alike_44 0 rfl ?_
          refine r_if_eq (pc := 46) (tgt := 76) dX12_alike_46 rfl (fun c => ?_) (fun c => ?_)
          · have h := it h c
            refine r_iconst (pc := 76) dX12_alike_76 kc_iconst_0 ?_
            cases h
            exact r_iret dX12_alike_77
          · have h := ie h c
            refine r_aload_n (pc := 49) dX12_alike_49 rfl 2 rfl ?_
            obtain ⟨a8, ha8, h⟩ := ob h
            refine r_getS (pc := 50) dX12_alike_50 fgX12_15 rfl g1 ha8 ?_
            refine r_iload_n (pc := 53) dX12_alike_53 rfl 1 rfl ?_
            obtain ⟨g9, h⟩ := gd h
            obtain ⟨g10, h⟩ := gd h
            refine r_baload (pc := 54) dX12_alike_54 g9 g10 ?_
            refine r_aload_n (pc := 55) dX12_alike_55 rfl 2 rfl ?_
            refine r_getS (pc := 56) dX12_alike_56 fgX12_15 rfl g1 ha8 ?_
            refine r_iload (pc := 59) dX12_alike_59 0 rfl ?_
            obtain ⟨g11, h⟩ := gd h
            refine r_baload (pc := 61) dX12_alike_61 g9 g11 ?_
            refine r_icmp_ne (pc := 62) (tgt := 76) dX12_alike_62 rfl (fun c => ?_) (fun c => ?_)
            · have h := ie h c
              refine r_iconst (pc := 76) dX12_alike_76 kc_iconst_0 ?_
              cases h
              exact r_iret dX12_alike_77
            · have h := it h c
              refine r_aload_n (pc := 65) dX12_alike_65 rfl 2 rfl ?_
              refine r_getS (pc := 66) dX12_alike_66 fgX12_15 rfl g1 ha8 ?_
              refine r_iload_n (pc := 69) dX12_alike_69 rfl 1 rfl ?_
              refine r_baload (pc := 70) dX12_alike_70 g9 g10 ?_
              refine r_bipush (pc := 71) dX12_alike_71 kc_bipush_16 ?_
              refine r_icmp_ne (pc := 73) (tgt := 78) dX12_alike_73 rfl (fun c => ?_) (fun c => ?_)
              · have h := ie h c
                refine r_aload_n (pc := 78) dX12_alike_78 rfl 2 rfl ?_
                refine r_iload_n (pc := 79) dX12_alike_79 rfl 1 rfl ?_
                obtain ⟨r12, hc13, h⟩ := ob h
                refine r_callV1 (pc := 80) (av := [vI (I a2 (Int32.toNatClampNeg x1))]) (S := []) dX12_alike_80 (kX12_isRow hc13) g1 rfl mkX12_396 mwX12_isRow rfl ⟨Nat.le_of_ble_eq_true rfl, Nat.le_of_ble_eq_true rfl⟩ (Nat.le_of_ble_eq_true rfl) ⟨Nat.le_refl _, Nat.le_refl _⟩ (fun b => b) ?_
                refine r_if_eq (pc := 83) (tgt := 96) dX12_alike_83 rfl (fun c => ?_) (fun c => ?_)
                · have h := it h c
                  refine r_aload_n (pc := 96) dX12_alike_96 rfl 2 rfl ?_
                  refine r_getS (pc := 97) dX12_alike_97 fgX12_15 rfl g1 ha8 ?_
                  refine r_iload_n (pc := 100) dX12_alike_100 rfl 1 rfl ?_
                  refine r_baload (pc := 101) dX12_alike_101 g9 g10 ?_
                  refine r_bipush (pc := 102) dX12_alike_102 kc_bipush_17 ?_
                  refine r_icmp_ne (pc := 104) (tgt := 117) dX12_alike_104 rfl (fun c => ?_) (fun c => ?_)
                  · have h := ie h c
                    refine r_aload_n (pc := 117) dX12_alike_117 rfl 2 rfl ?_
                    refine r_iload_n (pc := 118) dX12_alike_118 rfl 1 rfl ?_
                    refine r_iload (pc := 119) dX12_alike_119 0 rfl ?_
                    obtain ⟨r14, hc15, h⟩ := ob h
                    refine r_callV1 (pc := 121) (av := [vI (I a2 (Int32.toNatClampNeg x1)), vI (I a2 (Int32.toNatClampNeg x2))]) (S := []) dX12_alike_121 (kX12_arePlacesAlike hc15) g1 rfl mkX12_432 mwX12_arePlacesAlike rfl ⟨Nat.le_of_ble_eq_true rfl, Nat.le_of_ble_eq_true rfl⟩ (Nat.le_of_ble_eq_true rfl) ⟨Nat.le_refl _, Nat.le_refl _⟩ (fun b => b) ?_
                    refine r_istore (pc := 124) (L' := [(5, vI r14), (4, vI (I a2 (Int32.toNatClampNeg x2))), (3, vI (I a2 (Int32.toNatClampNeg x1))), (0, vR (some t)), (1, vI x1), (2, vI x2)]) dX12_alike_124 (by decide) rfl ?_
                    refine r_iload (pc := 126) dX12_alike_126 0 rfl ?_
                    refine r_if_eq (pc := 128) (tgt := 135) dX12_alike_128 rfl (fun c => ?_) (fun c => ?_)
                    · have h := it h c
                      refine r_iconst (pc := 135) dX12_alike_135 kc_iconst_0 ?_
                      cases h
                      exact r_iret dX12_alike_136
                    · have h := ie h c
                      refine r_iconst (pc := 131) dX12_alike_131 kc_iconst_1 ?_
                      refine r_goto (pc := 132) (tgt := 136) dX12_alike_132 rfl ?_
                      cases h
                      exact r_iret dX12_alike_136
                  · have h := it h c
                    refine r_aload_n (pc := 107) dX12_alike_107 rfl 2 rfl ?_
                    refine r_iload_n (pc := 108) dX12_alike_108 rfl 1 rfl ?_
                    refine r_iload (pc := 109) dX12_alike_109 0 rfl ?_
                    obtain ⟨r16, hc17, h⟩ := ob h
                    refine r_callV1 (pc := 111) (av := [vI (I a2 (Int32.toNatClampNeg x1)), vI (I a2 (Int32.toNatClampNeg x2))]) (S := []) dX12_alike_111 (kX12_areCardsAlike hc17) g1 rfl mkX12_429 mwX12_areCardsAlike rfl ⟨Nat.le_of_ble_eq_true rfl, Nat.le_of_ble_eq_true rfl⟩ (Nat.le_of_ble_eq_true rfl) ⟨Nat.le_refl _, Nat.le_refl _⟩ (fun b => b) ?_
                    refine r_goto (pc := 114) (tgt := 124) dX12_alike_114 rfl ?_
                    refine r_istore (pc := 124) (L' := [(5, vI r16), (4, vI (I a2 (Int32.toNatClampNeg x2))), (3, vI (I a2 (Int32.toNatClampNeg x1))), (0, vR (some t)), (1, vI x1), (2, vI x2)]) dX12_alike_124 (by decide) rfl ?_
                    refine r_iload (pc := 126) dX12_alike_126 0 rfl ?_
                    refine r_if_eq (pc := 128) (tgt := 135) dX12_alike_128 rfl (fun c => ?_) (fun c => ?_)
                    · have h := it h c
                      refine r_iconst (pc := 135) dX12_alike_135 kc_iconst_0 ?_
                      cases h
                      exact r_iret dX12_alike_136
                    · have h := ie h c
                      refine r_iconst (pc := 131) dX12_alike_131 kc_iconst_1 ?_
                      refine r_goto (pc := 132) (tgt := 136) dX12_alike_132 rfl ?_
                      cases h
                      exact r_iret dX12_alike_136
                · have h := ie h c
                  refine r_aload_n (pc := 86) dX12_alike_86 rfl 2 rfl ?_
                  refine r_iload_n (pc := 87) dX12_alike_87 rfl 1 rfl ?_
                  refine r_iload (pc := 88) dX12_alike_88 0 rfl ?_
                  obtain ⟨r18, hc19, h⟩ := ob h
                  refine r_callV1 (pc := 90) (av := [vI (I a2 (Int32.toNatClampNeg x1)), vI (I a2 (Int32.toNatClampNeg x2))]) (S := []) dX12_alike_90 (kX12_areRowsAlike hc19) g1 rfl mkX12_423 mwX12_areRowsAlike rfl ⟨Nat.le_of_ble_eq_true rfl, Nat.le_of_ble_eq_true rfl⟩ (Nat.le_of_ble_eq_true rfl) ⟨Nat.le_refl _, Nat.le_refl _⟩ (fun b => b) ?_
                  refine r_goto (pc := 93) (tgt := 124) dX12_alike_93 rfl ?_
                  refine r_istore (pc := 124) (L' := [(5, vI r18), (4, vI (I a2 (Int32.toNatClampNeg x2))), (3, vI (I a2 (Int32.toNatClampNeg x1))), (0, vR (some t)), (1, vI x1), (2, vI x2)]) dX12_alike_124 (by decide) rfl ?_
                  refine r_iload (pc := 126) dX12_alike_126 0 rfl ?_
                  refine r_if_eq (pc := 128) (tgt := 135) dX12_alike_128 rfl (fun c => ?_) (fun c => ?_)
                  · have h := it h c
                    refine r_iconst (pc := 135) dX12_alike_135 kc_iconst_0 ?_
                    cases h
                    exact r_iret dX12_alike_136
                  · have h := ie h c
                    refine r_iconst (pc := 131) dX12_alike_131 kc_iconst_1 ?_
                    refine r_goto (pc := 132) (tgt := 136) dX12_alike_132 rfl ?_
                    cases h
                    exact r_iret dX12_alike_136
              · have h := it h c
                refine r_iconst (pc := 76) dX12_alike_76 kc_iconst_0 ?_
                cases h
                exact r_iret dX12_alike_77
      · have h := it h c
        refine r_iconst (pc := 38) dX12_alike_38 kc_iconst_2 ?_
        cases h
        exact r_iret dX12_alike_39
    · have h := it h c
      refine r_bipush (pc := 14) dX12_alike_14 kc_bipush_m2 ?_
      cases h
      exact r_iret dX12_alike_16
abbrev WX12_size (G : Gx) (l : Launch) (σ0 : Shp) (X1 : Stt) (rv : Option SV) : Stt → Nat → List (Nat × SV) → List SV → Prop := Wm G l yX12_size cX12_size 6 (some .int) (fun _ => True) (rmx 1 22 σ0 X1.1) σ0 (Qmx G σ0 X1 rv)
def fX12_size_l61  (σ : Shp) (R : Nat → Nat → Option Nat) (t : Nat) : Nat → (Nat → Nat → Int32) → (Int32) → (Int32) → (Int32) → (Int32) → Option ((Nat → Nat → Int32) × (Int32))
  | 0, _, _, _, _, _ => none
  | n + 1, I, x2, x3, x4, x5 =>
    if kdx σ t = 13 then
    ((R t 5) : Option Nat).bind fun a16 =>
    if kdx σ a16 = 22 then
    if ¬ (x3 < 0 ∨ lnx σ a16 ≤ Int32.toNatClampNeg x3) then
    if (I a16 (Int32.toNatClampNeg x3)) ≤ x5 then
      if x2 = 0 then
        some (I, (I a16 (Int32.toNatClampNeg x3)))
      else
        some (I, x4)
    else
      (fX12_isRow σ I R t x3).bind fun r19 =>
      if r19 = 0 then
        ((R t 10) : Option Nat).bind fun a21 =>
        ((R t 6) : Option Nat).bind fun a22 =>
        if kdx σ a22 = 20 then
        if ¬ (x3 < 0 ∨ lnx σ a22 ≤ Int32.toNatClampNeg x3) then
        if kdx σ a21 = 23 then
        if ¬ (((I a22 (Int32.toNatClampNeg x3)) + x5) < 0 ∨ lnx σ a21 ≤ Int32.toNatClampNeg ((I a22 (Int32.toNatClampNeg x3)) + x5)) then
        if (I a21 (Int32.toNatClampNeg ((I a22 (Int32.toNatClampNeg x3)) + x5))) = 0 then
          let v29 := (x4 + (1 : Int32))
          let v30 := x5 + (1 : Int32)
          fX12_size_l61 σ R t n I x2 x3 v29 v30
        else
          let v27 := (x4 + (0 : Int32))
          let v28 := x5 + (1 : Int32)
          fX12_size_l61 σ R t n I x2 x3 v27 v28
        else none
        else none
        else none
        else none
      else
        if x2 = 0 then
          some (I, (I a16 (Int32.toNatClampNeg x3)))
        else
          some (I, x4)
    else none
    else none
    else none
theorem wX12_size_l61 {G : Gx} {l : Launch} {σ : Shp} {J : Nat → Nat → Int64} {D : Nat → Nat → UInt64} {R : Nat → Nat → Option Nat} {t : Nat} {I9 : Nat → Nat → Int32} {r9 : Int32} : ∀ (n : Nat) (I : Nat → Nat → Int32) (x2 : Int32) (x3 : Int32) (x4 : Int32) (x5 : Int32), fX12_size_l61 σ R t n I x2 x3 x4 x5 = some (I9, r9) → WX12_size G l σ (σ, I9, J, D, R) (some (vI r9)) (σ, I, J, D, R) 61 [(0, vR (some t)), (2, vI x2), (3, vI x3), (4, vI x4), (5, vI x5)] [] := by
  intro n
  induction n with
  | zero =>
    intro I x2 x3 x4 x5 h
    have h : none = some _ := h
    cases h
  | succ n ih =>
    intro I x2 x3 x4 x5 h
    rw [fX12_size_l61] at h
    refine r_iload (pc := 61) dX12_size_61 4 rfl ?_
    refine r_aload_n (pc := 63) dX12_size_63 rfl 0 rfl ?_
    obtain ⟨g15, h⟩ := gd h
    obtain ⟨a16, ha16, h⟩ := ob h
    refine r_getS (pc := 64) dX12_size_64 fgX12_19 rfl g15 ha16 ?_
    refine r_iload_n (pc := 67) dX12_size_67 rfl 2 rfl ?_
    obtain ⟨g17, h⟩ := gd h
    obtain ⟨g18, h⟩ := gd h
    refine r_baload (pc := 68) dX12_size_68 g17 g18 ?_
    refine r_icmp_ge (pc := 69) (tgt := 113) dX12_size_69 rfl (fun c => ?_) (fun c => ?_)
    · have h := it h c
      refine r_iload_n (pc := 113) dX12_size_113 rfl 1 rfl ?_
      refine r_ifne (pc := 114) (tgt := 126) dX12_size_114 rfl (fun c => ?_) (fun c => ?_)
      · have h := ie h c
        refine r_iload (pc := 126) dX12_size_126 3 rfl ?_
        cases h
        exact r_iret dX12_size_128
      · have h := it h c
        refine r_aload_n (pc := 117) dX12_size_117 rfl 0 rfl ?_
        refine r_getS (pc := 118) dX12_size_118 fgX12_19 rfl g15 ha16 ?_
        refine r_iload_n (pc := 121) dX12_size_121 rfl 2 rfl ?_
        refine r_baload (pc := 122) dX12_size_122 g17 g18 ?_
        refine r_goto (pc := 123) (tgt := 128) dX12_size_123 rfl ?_
        cases h
        exact r_iret dX12_size_128
    · have h := ie h c
      refine r_aload_n (pc := 72) dX12_size_72 rfl 0 rfl ?_
      refine r_iload_n (pc := 73) dX12_size_73 rfl 2 rfl ?_
      obtain ⟨r19, hc20, h⟩ := ob h
      refine r_callV1 (pc := 74) (av := [vI x3]) (S := []) dX12_size_74 (kX12_isRow hc20) g15 rfl mkX12_396 mwX12_isRow rfl ⟨Nat.le_of_ble_eq_true rfl, Nat.le_of_ble_eq_true rfl⟩ (Nat.le_of_ble_eq_true rfl) ⟨Nat.le_refl _, Nat.le_refl _⟩ (fun b => b) ?_
      refine r_ifne (pc := 77) (tgt := 113) dX12_size_77 rfl (fun c => ?_) (fun c => ?_)
      · have h := ie h c
        refine r_iload_n (pc := 113) dX12_size_113 rfl 1 rfl ?_
        refine r_ifne (pc := 114) (tgt := 126) dX12_size_114 rfl (fun c => ?_) (fun c => ?_)
        · have h := ie h c
          refine r_iload (pc := 126) dX12_size_126 3 rfl ?_
          cases h
          exact r_iret dX12_size_128
        · have h := it h c
          refine r_aload_n (pc := 117) dX12_size_117 rfl 0 rfl ?_
          refine r_getS (pc := 118) dX12_size_118 fgX12_19 rfl g15 ha16 ?_
          refine r_iload_n (pc := 121) dX12_size_121 rfl 2 rfl ?_
          refine r_baload (pc := 122) dX12_size_122 g17 g18 ?_
          refine r_goto (pc := 123) (tgt := 128) dX12_size_123 rfl ?_
          cases h
          exact r_iret dX12_size_128
      · have h := it h c
        refine r_iload (pc := 80) dX12_size_80 3 rfl ?_
        refine r_aload_n (pc := 82) dX12_size_82 rfl 0 rfl ?_
        obtain ⟨a21, ha21, h⟩ := ob h
        refine r_getS (pc := 83) dX12_size_83 fgX12_31 rfl g15 ha21 ?_
        refine r_aload_n (pc := 86) dX12_size_86 rfl 0 rfl ?_
        obtain ⟨a22, ha22, h⟩ := ob h
        refine r_getS (pc := 87) dX12_size_87 fgX12_22 rfl g15 ha22 ?_
        refine r_iload_n (pc := 90) dX12_size_90 rfl 2 rfl ?_
        obtain ⟨g23, h⟩ := gd h
        obtain ⟨g24, h⟩ := gd h
        refine r_iaload (pc := 91) dX12_size_91 g23 g24 ?_
        refine r_iload (pc := 92) dX12_size_92 4 rfl ?_
        refine r_iadd (pc := 94) dX12_size_94 ?_
        obtain ⟨g25, h⟩ := gd h
        obtain ⟨g26, h⟩ := gd h
        refine r_saload (pc := 95) dX12_size_95 g25 g26 ?_
        refine r_ifne (pc := 96) (tgt := 103) dX12_size_96 rfl (fun c => ?_) (fun c => ?_)
        · have h := ie h c
          refine r_iconst (pc := 103) dX12_size_103 kc_iconst_0 ?_
          refine r_iadd (pc := 104) dX12_size_104 ?_
          refine r_istore (pc := 105) (L' := [(4, vI (x4 + (0 : Int32))), (0, vR (some t)), (2, vI x2), (3, vI x3), (5, vI x5)]) dX12_size_105 (by decide) rfl ?_
          refine r_iinc (pc := 107) (v := (x5 + (1 : Int32))) (L' := [(5, vI (x5 + (1 : Int32))), (4, vI (x4 + (0 : Int32))), (0, vR (some t)), (2, vI x2), (3, vI x3)]) dX12_size_107 4 rfl (kc_inc_1 _) (by decide) rfl ?_
          refine r_goto (pc := 110) (tgt := 61) dX12_size_110 rfl ?_
          refine r_sub [2, 3, 4, 1, 0] rfl ?_
          exact ih _ _ _ _ _ h
        · have h := it h c
          refine r_iconst (pc := 99) dX12_size_99 kc_iconst_1 ?_
          refine r_goto (pc := 100) (tgt := 104) dX12_size_100 rfl ?_
          refine r_iadd (pc := 104) dX12_size_104 ?_
          refine r_istore (pc := 105) (L' := [(4, vI (x4 + (1 : Int32))), (0, vR (some t)), (2, vI x2), (3, vI x3), (5, vI x5)]) dX12_size_105 (by decide) rfl ?_
          refine r_iinc (pc := 107) (v := (x5 + (1 : Int32))) (L' := [(5, vI (x5 + (1 : Int32))), (4, vI (x4 + (1 : Int32))), (0, vR (some t)), (2, vI x2), (3, vI x3)]) dX12_size_107 4 rfl (kc_inc_1 _) (by decide) rfl ?_
          refine r_goto (pc := 110) (tgt := 61) dX12_size_110 rfl ?_
          refine r_sub [2, 3, 4, 1, 0] rfl ?_
          exact ih _ _ _ _ _ h
def fX12_size (σ : Shp) (I : Nat → Nat → Int32) (R : Nat → Nat → Option Nat) (t : Nat) (x1 : Int32) (x2 : Int32) : Option ((Nat → Nat → Int32) × (Int32)) :=
  if (fX12_isBin x1) = 0 then
    some (I, (-2 : Int32))
  else
    if (fX12_in x2 (0 : Int32) (1 : Int32)) = 0 then
      some (I, (-2 : Int32))
    else
      if kdx σ t = 13 then
      ((R t 3) : Option Nat).bind fun a2 =>
      if kdx σ a2 = 20 then
      if ¬ (x1 < 0 ∨ lnx σ a2 ≤ Int32.toNatClampNeg x1) then
      let v5 := (I a2 (Int32.toNatClampNeg x1))
      if v5 = 0 then
        if v5 = 0 then
          (fX12_no σ I t (1 : Int32)).bind fun (I9, r10) =>
          some (I9, r10)
        else
          (fX12_no σ I t (4 : Int32)).bind fun (I6, r7) =>
          some (I6, r7)
      else
        ((R t 4) : Option Nat).bind fun a12 =>
        if kdx σ a12 = 22 then
        if ¬ (v5 < 0 ∨ lnx σ a12 ≤ Int32.toNatClampNeg v5) then
        if (I a12 (Int32.toNatClampNeg v5)) < (16 : Int32) then
          fX12_size_l61 σ R t FUx I x2 v5 (0 : Int32) (0 : Int32)
        else
          if v5 = 0 then
            (fX12_no σ I t (1 : Int32)).bind fun (I34, r35) =>
            some (I34, r35)
          else
            (fX12_no σ I t (4 : Int32)).bind fun (I31, r32) =>
            some (I31, r32)
        else none
        else none
      else none
      else none
      else none
theorem kX12_size {G : Gx} {l : Launch} {σ : Shp} {I : Nat → Nat → Int32} {J : Nat → Nat → Int64} {D : Nat → Nat → UInt64} {R : Nat → Nat → Option Nat} {t : Nat} {x1 : Int32} {x2 : Int32} {I9 : Nat → Nat → Int32} {r9 : Int32} (h : fX12_size σ I R t x1 x2 = some (I9, r9)) : Con G l yX12_size cX12_size 6 (some .int) 1 22 [vR (some t), vI x1, vI x2] (σ, I, J, D, R) (σ, I9, J, D, R) (some (vI r9)) := by
  unfold fX12_size at h
  refine Con.mk (by decide +kernel) rfl (Nat.le_of_ble_eq_true rfl) ?_
  show WX12_size G l σ (σ, I9, J, D, R) (some (vI r9)) (σ, I, J, D, R) 0 _ []
  refine r_iload_n (pc := 0) dX12_size_0 rfl 1 rfl ?_
  refine r_callS1 (pc := 1) (av := [vI x1]) (S := []) dX12_size_1 (kX12_isBin rfl) mkX12_345 mwX12_isBin rfl ⟨Nat.le_of_ble_eq_true rfl, Nat.le_of_ble_eq_true rfl⟩ (Nat.le_of_ble_eq_true rfl) ⟨Nat.le_refl _, Nat.le_refl _⟩ (fun b => b) ?_
  refine r_if_eq (pc := 4) (tgt := 16) dX12_size_4 rfl (fun c => ?_) (fun c => ?_)
  · have h := it h c
    refine r_bipush (pc := 16) dX12_size_16 kc_bipush_m2 ?_
    cases h
    exact r_iret dX12_size_18
  · have h := ie h c
    refine r_iload_n (pc := 7) dX12_size_7 rfl 2 rfl ?_
    refine r_iconst (pc := 8) dX12_size_8 kc_iconst_0 ?_
    refine r_iconst (pc := 9) dX12_size_9 kc_iconst_1 ?_
    refine r_callS1 (pc := 10) (av := [vI x2, vI (0 : Int32), vI (1 : Int32)]) (S := []) dX12_size_10 (kX12_in rfl) mkX12_322 mwX12_in rfl ⟨Nat.le_of_ble_eq_true rfl, Nat.le_of_ble_eq_true rfl⟩ (Nat.le_of_ble_eq_true rfl) ⟨Nat.le_refl _, Nat.le_refl _⟩ (fun b => b) ?_
    refine r_ifne (pc := 13) (tgt := 19) dX12_size_13 rfl (fun c => ?_) (fun c => ?_)
    · have h := ie h c
      refine r_aload_n (pc := 19) dX12_size_19 rfl 0 rfl ?_
      obtain ⟨g1, h⟩ := gd h
      obtain ⟨a2, ha2, h⟩ := ob h
      refine r_getS (pc := 20) dX12_size_20 fgX12_9 rfl g1 ha2 ?_
      refine r_iload_n (pc := 23) dX12_size_23 rfl 1 rfl ?_
      obtain ⟨g3, h⟩ := gd h
      obtain ⟨g4, h⟩ := gd h
      refine r_iaload (pc := 24) dX12_size_24 g3 g4 ?_
      refine r_istore_n (pc := 25) (L' := [(3, vI (I a2 (Int32.toNatClampNeg x1))), (0, vR (some t)), (1, vI x1), (2, vI x2)]) dX12_size_25 rfl (by decide) rfl ?_
      refine r_iload_n (pc := 26) dX12_size_26 rfl 0 rfl ?_
      refine r_if_eq (pc := 27) (tgt := 41) dX12_size_27 rfl (fun c => ?_) (fun c => ?_)
      · have h := it h c
        refine r_aload_n (pc := 41) dX12_size_41 rfl 1 rfl ?_
        refine r_iload_n (pc := 42) dX12_size_42 rfl 0 rfl ?_
        refine r_ifne (pc := 43) (tgt := 50) dX12_size_43 rfl (fun c => ?_) (fun c => ?_)
        · have h := ie h c
          refine r_iconst (pc := 50) dX12_size_50 kc_iconst_4 ?_
          obtain ⟨⟨I6, r7⟩, hc8, h⟩ := ob h
          refine r_callV1 (pc := 51) (av := [vI (4 : Int32)]) (S := []) dX12_size_51 (kX12_no hc8) g1 rfl mkX12_308 mwX12_no rfl ⟨Nat.le_of_ble_eq_true rfl, Nat.le_of_ble_eq_true rfl⟩ (Nat.le_of_ble_eq_true rfl) ⟨Nat.le_refl _, Nat.le_refl _⟩ (fun b => b) ?_
          cases h
          exact r_iret dX12_size_54
        · have h := it h c
          refine r_iconst (pc := 46) dX12_size_46 kc_iconst_1 ?_
          refine r_goto (pc := 47) (tgt := 51) dX12_size_47 rfl ?_
          obtain ⟨⟨I9, r10⟩, hc11, h⟩ := ob h
          refine r_callV1 (pc := 51) (av := [vI (1 : Int32)]) (S := []) dX12_size_51 (kX12_no hc11) g1 rfl mkX12_308 mwX12_no rfl ⟨Nat.le_of_ble_eq_true rfl, Nat.le_of_ble_eq_true rfl⟩ (Nat.le_of_ble_eq_true rfl) ⟨Nat.le_refl _, Nat.le_refl _⟩ (fun b => b) ?_
          cases h
          exact r_iret dX12_size_54
      · have h := ie h c
        refine r_aload_n (pc := 30) dX12_size_30 rfl 1 rfl ?_
        obtain ⟨a12, ha12, h⟩ := ob h
        refine r_getS (pc := 31) dX12_size_31 fgX12_15 rfl g1 ha12 ?_
        refine r_iload_n (pc := 34) dX12_size_34 rfl 0 rfl ?_
        obtain ⟨g13, h⟩ := gd h
        obtain ⟨g14, h⟩ := gd h
        refine r_baload (pc := 35) dX12_size_35 g13 g14 ?_
        refine r_bipush (pc := 36) dX12_size_36 kc_bipush_16 ?_
        refine r_icmp_lt (pc := 38) (tgt := 55) dX12_size_38 rfl (fun c => ?_) (fun c => ?_)
        · have h := it h c
          refine r_iconst (pc := 55) dX12_size_55 kc_iconst_0 ?_
          refine r_istore (pc := 56) (L' := [(4, vI (0 : Int32)), (3, vI (I a2 (Int32.toNatClampNeg x1))), (0, vR (some t)), (1, vI x1), (2, vI x2)]) dX12_size_56 (by decide) rfl ?_
          refine r_iconst (pc := 58) dX12_size_58 kc_iconst_0 ?_
          refine r_istore (pc := 59) (L' := [(5, vI (0 : Int32)), (4, vI (0 : Int32)), (3, vI (I a2 (Int32.toNatClampNeg x1))), (0, vR (some t)), (1, vI x1), (2, vI x2)]) dX12_size_59 (by decide) rfl ?_
          refine r_sub [3, 5, 2, 1, 0] rfl ?_
          exact wX12_size_l61 _ _ _ _ _ _ h
        · have h := ie h c
          refine r_aload_n (pc := 41) dX12_size_41 rfl 1 rfl ?_
          refine r_iload_n (pc := 42) dX12_size_42 rfl 0 rfl ?_
          refine r_ifne (pc := 43) (tgt := 50) dX12_size_43 rfl (fun c => ?_) (fun c => ?_)
          · have h := ie h c
            refine r_iconst (pc := 50) dX12_size_50 kc_iconst_4 ?_
            obtain ⟨⟨I31, r32⟩, hc33, h⟩ := ob h
            refine r_callV1 (pc := 51) (av := [vI (4 : Int32)]) (S := []) dX12_size_51 (kX12_no hc33) g1 rfl mkX12_308 mwX12_no rfl ⟨Nat.le_of_ble_eq_true rfl, Nat.le_of_ble_eq_true rfl⟩ (Nat.le_of_ble_eq_true rfl) ⟨Nat.le_refl _, Nat.le_refl _⟩ (fun b => b) ?_
            cases h
            exact r_iret dX12_size_54
          · have h := it h c
            refine r_iconst (pc := 46) dX12_size_46 kc_iconst_1 ?_
            refine r_goto (pc := 47) (tgt := 51) dX12_size_47 rfl ?_
            obtain ⟨⟨I34, r35⟩, hc36, h⟩ := ob h
            refine r_callV1 (pc := 51) (av := [vI (1 : Int32)]) (S := []) dX12_size_51 (kX12_no hc36) g1 rfl mkX12_308 mwX12_no rfl ⟨Nat.le_of_ble_eq_true rfl, Nat.le_of_ble_eq_true rfl⟩ (Nat.le_of_ble_eq_true rfl) ⟨Nat.le_refl _, Nat.le_refl _⟩ (fun b => b) ?_
            cases h
            exact r_iret dX12_size_54
    · have h := it h c
      refine r_bipush (pc := 16) dX12_size_16 kc_bipush_m2 ?_
      cases h
      exact r_iret dX12_size_18
abbrev WX12_plant (G : Gx) (l : Launch) (σ0 : Shp) (X1 : Stt) (rv : Option SV) : Stt → Nat → List (Nat × SV) → List SV → Prop := Wm G l yX12_plant cX12_plant 9 (some .int) (fun _ => True) (rmx 1 22 σ0 X1.1) σ0 (Qmx G σ0 X1 rv)
def fX12_plant_b244  (σ : Shp) (R : Nat → Nat → Option Nat) (t : Nat) (I : Nat → Nat → Int32) (x1 : Int32) (x7 : Int32) (x8 : Int32) (s0 : Option Nat) (s1 : Int32) (s2 : Int32) : Option ((Nat → Nat → Int32) × (Int32)) :=
  (s0 : Option Nat).bind fun a27 =>
  if kdx σ a27 = 23 then
  if ¬ (s1 < 0 ∨ lnx σ a27 ≤ Int32.toNatClampNeg s1) then
  let I30 := u2 I a27 (Int32.toNatClampNeg s1) ((Int32.toInt16 ((Int32.toInt16 s2).toInt32)).toInt32)
  if kdx σ t = 13 then
  ((R t 17) : Option Nat).bind fun a32 =>
  if kdx σ a32 = 22 then
  if ¬ (x8 < 0 ∨ lnx σ a32 ≤ Int32.toNatClampNeg x8) then
  let I35 := u2 I30 a32 (Int32.toNatClampNeg x8) ((Int32.toInt8 ((Int32.toInt8 x7).toInt32)).toInt32)
  ((R t 11) : Option Nat).bind fun a36 =>
  if kdx σ a36 = 20 then
  if ¬ (x8 < 0 ∨ lnx σ a36 ≤ Int32.toNatClampNeg x8) then
  let I39 := u2 I35 a36 (Int32.toNatClampNeg x8) (I35 t 18)
  let I40 := u2 I39 t 18 ((I39 t 18) + (1 : Int32))
  ((R t 3) : Option Nat).bind fun a41 =>
  if kdx σ a41 = 20 then
  if ¬ (x1 < 0 ∨ lnx σ a41 ≤ Int32.toNatClampNeg x1) then
  let I44 := u2 I40 a41 (Int32.toNatClampNeg x1) x8
  some (I44, (I44 a36 (Int32.toNatClampNeg x8)))
  else none
  else none
  else none
  else none
  else none
  else none
  else none
  else none
  else none
theorem wX12_plant_b244 {G : Gx} {l : Launch} {σ : Shp} {I : Nat → Nat → Int32} {J : Nat → Nat → Int64} {D : Nat → Nat → UInt64} {R : Nat → Nat → Option Nat} {t : Nat} {I9 : Nat → Nat → Int32} {r9 : Int32} {x1 : Int32} {x7 : Int32} {x8 : Int32} {s0 : Option Nat} {s1 : Int32} {s2 : Int32} (h : fX12_plant_b244 σ R t I x1 x7 x8 s0 s1 s2 = some (I9, r9)) : WX12_plant G l σ (σ, I9, J, D, R) (some (vI r9)) (σ, I, J, D, R) 244 [(0, vR (some t)), (1, vI x1), (7, vI x7), (8, vI x8)] [vI s2, vI s1, vR s0] := by
  unfold fX12_plant_b244 at h
  refine r_i2s (pc := 244) dX12_plant_244 ?_
  obtain ⟨a27, ha27, h⟩ := ob h
  refine r_ref2 ha27 ?_
  obtain ⟨g28, h⟩ := gd h
  obtain ⟨g29, h⟩ := gd h
  refine r_sastore (pc := 245) dX12_plant_245 g28 g29 ?_
  refine r_aload_n (pc := 246) dX12_plant_246 rfl 0 rfl ?_
  obtain ⟨g31, h⟩ := gd h
  obtain ⟨a32, ha32, h⟩ := ob h
  refine r_getS (pc := 247) dX12_plant_247 fgX12_53 rfl g31 ha32 ?_
  refine r_iload (pc := 250) dX12_plant_250 3 rfl ?_
  refine r_iload (pc := 252) dX12_plant_252 2 rfl ?_
  refine r_i2b (pc := 254) dX12_plant_254 ?_
  obtain ⟨g33, h⟩ := gd h
  obtain ⟨g34, h⟩ := gd h
  refine r_bastore (pc := 255) dX12_plant_255 g33 g34 ?_
  refine r_aload_n (pc := 256) dX12_plant_256 rfl 0 rfl ?_
  obtain ⟨a36, ha36, h⟩ := ob h
  refine r_getS (pc := 257) dX12_plant_257 fgX12_35 rfl g31 ha36 ?_
  refine r_iload (pc := 260) dX12_plant_260 3 rfl ?_
  refine r_aload_n (pc := 262) dX12_plant_262 rfl 0 rfl ?_
  refine r_getI (pc := 263) dX12_plant_263 fgX12_435 rfl g31 ?_
  obtain ⟨g37, h⟩ := gd h
  obtain ⟨g38, h⟩ := gd h
  refine r_iastore (pc := 266) dX12_plant_266 g37 g38 ?_
  refine r_aload_n (pc := 267) dX12_plant_267 rfl 0 rfl ?_
  refine r_dup (pc := 268) dX12_plant_268 rfl ?_
  refine r_getI (pc := 269) dX12_plant_269 fgX12_435 rfl g31 ?_
  refine r_iconst (pc := 272) dX12_plant_272 kc_iconst_1 ?_
  refine r_iadd (pc := 273) dX12_plant_273 ?_
  refine r_putI (pc := 274) dX12_plant_274 fwX12_435 rfl g31 ?_
  refine r_aload_n (pc := 277) dX12_plant_277 rfl 0 rfl ?_
  obtain ⟨a41, ha41, h⟩ := ob h
  refine r_getS (pc := 278) dX12_plant_278 fgX12_9 rfl g31 ha41 ?_
  refine r_iload_n (pc := 281) dX12_plant_281 rfl 1 rfl ?_
  refine r_iload (pc := 282) dX12_plant_282 3 rfl ?_
  obtain ⟨g42, h⟩ := gd h
  obtain ⟨g43, h⟩ := gd h
  refine r_iastore (pc := 284) dX12_plant_284 g42 g43 ?_
  refine r_aload_n (pc := 285) dX12_plant_285 rfl 0 rfl ?_
  refine r_getS (pc := 286) dX12_plant_286 fgX12_35 rfl g31 ha36 ?_
  refine r_iload (pc := 289) dX12_plant_289 3 rfl ?_
  refine r_iaload (pc := 291) dX12_plant_291 g37 g38 ?_
  cases h
  exact r_iret dX12_plant_292
def fX12_plant_b220  (σ : Shp) (R : Nat → Nat → Option Nat) (t : Nat) (I : Nat → Nat → Int32) (x1 : Int32) (x2 : Int32) (x6 : Int32) (x7 : Int32) (x8 : Int32) (s0 : Option Nat) (s1 : Int32) (s2 : Int32) : Option ((Nat → Nat → Int32) × (Int32)) :=
  (s0 : Option Nat).bind fun a21 =>
  if kdx σ a21 = 23 then
  if ¬ (s1 < 0 ∨ lnx σ a21 ≤ Int32.toNatClampNeg s1) then
  let I24 := u2 I a21 (Int32.toNatClampNeg s1) ((Int32.toInt16 ((Int32.toInt16 s2).toInt32)).toInt32)
  if kdx σ t = 13 then
  ((R t 16) : Option Nat).bind fun a26 =>
  if x2 = (2 : Int32) then
    ((R t 3) : Option Nat).bind fun a45 =>
    if kdx σ a45 = 20 then
    if ¬ (x6 < 0 ∨ lnx σ a45 ≤ Int32.toNatClampNeg x6) then
    fX12_plant_b244 σ R t I24 x1 x7 x8 (some a26) x8 (I24 a45 (Int32.toNatClampNeg x6))
    else none
    else none
  else
    fX12_plant_b244 σ R t I24 x1 x7 x8 (some a26) x8 (0 : Int32)
  else none
  else none
  else none
theorem wX12_plant_b220 {G : Gx} {l : Launch} {σ : Shp} {I : Nat → Nat → Int32} {J : Nat → Nat → Int64} {D : Nat → Nat → UInt64} {R : Nat → Nat → Option Nat} {t : Nat} {I9 : Nat → Nat → Int32} {r9 : Int32} {x1 : Int32} {x2 : Int32} {x6 : Int32} {x7 : Int32} {x8 : Int32} {s0 : Option Nat} {s1 : Int32} {s2 : Int32} (h : fX12_plant_b220 σ R t I x1 x2 x6 x7 x8 s0 s1 s2 = some (I9, r9)) : WX12_plant G l σ (σ, I9, J, D, R) (some (vI r9)) (σ, I, J, D, R) 220 [(0, vR (some t)), (1, vI x1), (2, vI x2), (6, vI x6), (7, vI x7), (8, vI x8)] [vI s2, vI s1, vR s0] := by
  unfold fX12_plant_b220 at h
  refine r_i2s (pc := 220) dX12_plant_220 ?_
  obtain ⟨a21, ha21, h⟩ := ob h
  refine r_ref2 ha21 ?_
  obtain ⟨g22, h⟩ := gd h
  obtain ⟨g23, h⟩ := gd h
  refine r_sastore (pc := 221) dX12_plant_221 g22 g23 ?_
  refine r_aload_n (pc := 222) dX12_plant_222 rfl 0 rfl ?_
  obtain ⟨g25, h⟩ := gd h
  obtain ⟨a26, ha26, h⟩ := ob h
  refine r_getS (pc := 223) dX12_plant_223 fgX12_50 rfl g25 ha26 ?_
  refine r_iload (pc := 226) dX12_plant_226 5 rfl ?_
  refine r_iload_n (pc := 228) dX12_plant_228 rfl 2 rfl ?_
  refine r_iconst (pc := 229) dX12_plant_229 kc_iconst_2 ?_
  refine r_icmp_ne (pc := 230) (tgt := 243) dX12_plant_230 rfl (fun c => ?_) (fun c => ?_)
  · have h := ie h c
    refine r_iconst (pc := 243) dX12_plant_243 kc_iconst_0 ?_
    refine r_sub [0, 1, 4, 5] rfl ?_
    exact wX12_plant_b244 h
  · have h := it h c
    refine r_aload_n (pc := 233) dX12_plant_233 rfl 0 rfl ?_
    obtain ⟨a45, ha45, h⟩ := ob h
    refine r_getS (pc := 234) dX12_plant_234 fgX12_9 rfl g25 ha45 ?_
    refine r_iload (pc := 237) dX12_plant_237 3 rfl ?_
    obtain ⟨g46, h⟩ := gd h
    obtain ⟨g47, h⟩ := gd h
    refine r_iaload (pc := 239) dX12_plant_239 g46 g47 ?_
    refine r_goto (pc := 240) (tgt := 244) dX12_plant_240 rfl ?_
    refine r_sub [0, 1, 4, 5] rfl ?_
    exact wX12_plant_b244 h
def fX12_plant_b163  (σ : Shp) (R : Nat → Nat → Option Nat) (t : Nat) (I : Nat → Nat → Int32) (x1 : Int32) (x2 : Int32) (x3 : Int32) (x4 : Int32) (x5 : Int32) (x6 : Int32) (x7 : Int32) : Option ((Nat → Nat → Int32) × (Int32)) :=
  if kdx σ t = 13 then
  (fX12_thing σ I R t (16 : Int32) (0 : Int32)).bind fun (I5, r6) =>
  ((R t 12) : Option Nat).bind fun a8 =>
  if kdx σ a8 = 22 then
  if ¬ (r6 < 0 ∨ lnx σ a8 ≤ Int32.toNatClampNeg r6) then
  let I11 := u2 I5 a8 (Int32.toNatClampNeg r6) ((Int32.toInt8 ((Int32.toInt8 x2).toInt32)).toInt32)
  ((R t 13) : Option Nat).bind fun a12 =>
  if kdx σ a12 = 20 then
  if ¬ (r6 < 0 ∨ lnx σ a12 ≤ Int32.toNatClampNeg r6) then
  let I15 := u2 I11 a12 (Int32.toNatClampNeg r6) x3
  ((R t 14) : Option Nat).bind fun a16 =>
  if kdx σ a16 = 20 then
  if ¬ (r6 < 0 ∨ lnx σ a16 ≤ Int32.toNatClampNeg r6) then
  let I19 := u2 I15 a16 (Int32.toNatClampNeg r6) x4
  ((R t 15) : Option Nat).bind fun a20 =>
  if x2 = (2 : Int32) then
    ((R t 3) : Option Nat).bind fun a48 =>
    if kdx σ a48 = 20 then
    if ¬ (x5 < 0 ∨ lnx σ a48 ≤ Int32.toNatClampNeg x5) then
    fX12_plant_b220 σ R t I19 x1 x2 x6 x7 r6 (some a20) r6 (I19 a48 (Int32.toNatClampNeg x5))
    else none
    else none
  else
    fX12_plant_b220 σ R t I19 x1 x2 x6 x7 r6 (some a20) r6 (0 : Int32)
  else none
  else none
  else none
  else none
  else none
  else none
  else none
theorem wX12_plant_b163 {G : Gx} {l : Launch} {σ : Shp} {I : Nat → Nat → Int32} {J : Nat → Nat → Int64} {D : Nat → Nat → UInt64} {R : Nat → Nat → Option Nat} {t : Nat} {I9 : Nat → Nat → Int32} {r9 : Int32} {x1 : Int32} {x2 : Int32} {x3 : Int32} {x4 : Int32} {x5 : Int32} {x6 : Int32} {x7 : Int32} (h : fX12_plant_b163 σ R t I x1 x2 x3 x4 x5 x6 x7 = some (I9, r9)) : WX12_plant G l σ (σ, I9, J, D, R) (some (vI r9)) (σ, I, J, D, R) 163 [(0, vR (some t)), (1, vI x1), (2, vI x2), (3, vI x3), (4, vI x4), (5, vI x5), (6, vI x6), (7, vI x7)] [] := by
  unfold fX12_plant_b163 at h
  refine r_aload_n (pc := 163) dX12_plant_163 rfl 0 rfl ?_
  refine r_bipush (pc := 164) dX12_plant_164 kc_bipush_16 ?_
  refine r_iconst (pc := 166) dX12_plant_166 kc_iconst_0 ?_
  obtain ⟨g4, h⟩ := gd h
  obtain ⟨⟨I5, r6⟩, hc7, h⟩ := ob h
  refine r_callV1 (pc := 167) (av := [vI (16 : Int32), vI (0 : Int32)]) (S := []) dX12_plant_167 (kX12_thing hc7) g4 rfl mkX12_312 mwX12_thing rfl ⟨Nat.le_of_ble_eq_true rfl, Nat.le_of_ble_eq_true rfl⟩ (Nat.le_of_ble_eq_true rfl) ⟨Nat.le_refl _, Nat.le_refl _⟩ (fun b => b) ?_
  refine r_istore (pc := 170) (L' := [(8, vI r6), (0, vR (some t)), (1, vI x1), (2, vI x2), (3, vI x3), (4, vI x4), (5, vI x5), (6, vI x6), (7, vI x7)]) dX12_plant_170 (by decide) rfl ?_
  refine r_aload_n (pc := 172) dX12_plant_172 rfl 1 rfl ?_
  obtain ⟨a8, ha8, h⟩ := ob h
  refine r_getS (pc := 173) dX12_plant_173 fgX12_38 rfl g4 ha8 ?_
  refine r_iload (pc := 176) dX12_plant_176 0 rfl ?_
  refine r_iload_n (pc := 178) dX12_plant_178 rfl 3 rfl ?_
  refine r_i2b (pc := 179) dX12_plant_179 ?_
  obtain ⟨g9, h⟩ := gd h
  obtain ⟨g10, h⟩ := gd h
  refine r_bastore (pc := 180) dX12_plant_180 g9 g10 ?_
  refine r_aload_n (pc := 181) dX12_plant_181 rfl 1 rfl ?_
  obtain ⟨a12, ha12, h⟩ := ob h
  refine r_getS (pc := 182) dX12_plant_182 fgX12_41 rfl g4 ha12 ?_
  refine r_iload (pc := 185) dX12_plant_185 0 rfl ?_
  refine r_iload_n (pc := 187) dX12_plant_187 rfl 4 rfl ?_
  obtain ⟨g13, h⟩ := gd h
  obtain ⟨g14, h⟩ := gd h
  refine r_iastore (pc := 188) dX12_plant_188 g13 g14 ?_
  refine r_aload_n (pc := 189) dX12_plant_189 rfl 1 rfl ?_
  obtain ⟨a16, ha16, h⟩ := ob h
  refine r_getS (pc := 190) dX12_plant_190 fgX12_44 rfl g4 ha16 ?_
  refine r_iload (pc := 193) dX12_plant_193 0 rfl ?_
  refine r_iload (pc := 195) dX12_plant_195 5 rfl ?_
  obtain ⟨g17, h⟩ := gd h
  obtain ⟨g18, h⟩ := gd h
  refine r_iastore (pc := 197) dX12_plant_197 g17 g18 ?_
  refine r_aload_n (pc := 198) dX12_plant_198 rfl 1 rfl ?_
  obtain ⟨a20, ha20, h⟩ := ob h
  refine r_getS (pc := 199) dX12_plant_199 fgX12_47 rfl g4 ha20 ?_
  refine r_iload (pc := 202) dX12_plant_202 0 rfl ?_
  refine r_iload_n (pc := 204) dX12_plant_204 rfl 3 rfl ?_
  refine r_iconst (pc := 205) dX12_plant_205 kc_iconst_2 ?_
  refine r_icmp_ne (pc := 206) (tgt := 219) dX12_plant_206 rfl (fun c => ?_) (fun c => ?_)
  · have h := ie h c
    refine r_iconst (pc := 219) dX12_plant_219 kc_iconst_0 ?_
    refine r_sub [1, 2, 3, 7, 8, 0] rfl ?_
    exact wX12_plant_b220 h
  · have h := it h c
    refine r_aload_n (pc := 209) dX12_plant_209 rfl 1 rfl ?_
    obtain ⟨a48, ha48, h⟩ := ob h
    refine r_getS (pc := 210) dX12_plant_210 fgX12_9 rfl g4 ha48 ?_
    refine r_iload (pc := 213) dX12_plant_213 6 rfl ?_
    obtain ⟨g49, h⟩ := gd h
    obtain ⟨g50, h⟩ := gd h
    refine r_iaload (pc := 215) dX12_plant_215 g49 g50 ?_
    refine r_goto (pc := 216) (tgt := 220) dX12_plant_216 rfl ?_
    refine r_sub [1, 2, 3, 7, 8, 0] rfl ?_
    exact wX12_plant_b220 h
def fX12_plant_b40  (σ : Shp) (R : Nat → Nat → Option Nat) (t : Nat) (I : Nat → Nat → Int32) (x1 : Int32) (x2 : Int32) (x3 : Int32) (x4 : Int32) (x5 : Int32) (x6 : Int32) : Option ((Nat → Nat → Int32) × (Int32)) :=
  if kdx σ t = 13 then
  (fX12_isFull σ I t).bind fun r2 =>
  if r2 = 0 then
    if x2 = (2 : Int32) then
      ((R t 3) : Option Nat).bind fun a51 =>
      if kdx σ a51 = 20 then
      if ¬ (x5 < 0 ∨ lnx σ a51 ≤ Int32.toNatClampNeg x5) then
      (fX12_isOf σ I R t (I a51 (Int32.toNatClampNeg x5)) (16 : Int32)).bind fun r54 =>
      if r54 = 0 then
        (fX12_no σ I t (4 : Int32)).bind fun (I56, r57) =>
        some (I56, r57)
      else
        if ¬ (x6 < 0 ∨ lnx σ a51 ≤ Int32.toNatClampNeg x6) then
        (fX12_isOf σ I R t (I a51 (Int32.toNatClampNeg x6)) (16 : Int32)).bind fun r60 =>
        if r60 = 0 then
          (fX12_no σ I t (4 : Int32)).bind fun (I68, r69) =>
          some (I68, r69)
        else
          ((R t 17) : Option Nat).bind fun a62 =>
          if kdx σ a62 = 22 then
          if ¬ ((I a51 (Int32.toNatClampNeg x5)) < 0 ∨ lnx σ a62 ≤ Int32.toNatClampNeg (I a51 (Int32.toNatClampNeg x5))) then
          if ¬ ((I a51 (Int32.toNatClampNeg x6)) < 0 ∨ lnx σ a62 ≤ Int32.toNatClampNeg (I a51 (Int32.toNatClampNeg x6))) then
          if (I a62 (Int32.toNatClampNeg (I a51 (Int32.toNatClampNeg x5)))) ≤ (I a62 (Int32.toNatClampNeg (I a51 (Int32.toNatClampNeg x6)))) then
            let v66 := ((1 : Int32) + (I a62 (Int32.toNatClampNeg (I a51 (Int32.toNatClampNeg x6)))))
            if v66 ≤ (4 : Int32) then
              fX12_plant_b163 σ R t I x1 x2 x3 x4 x5 x6 v66
            else
              some (I, (-4 : Int32))
          else
            let v67 := ((1 : Int32) + (I a62 (Int32.toNatClampNeg (I a51 (Int32.toNatClampNeg x5)))))
            if v67 ≤ (4 : Int32) then
              fX12_plant_b163 σ R t I x1 x2 x3 x4 x5 x6 v67
            else
              some (I, (-4 : Int32))
          else none
          else none
          else none
        else none
      else none
      else none
    else
      fX12_plant_b163 σ R t I x1 x2 x3 x4 x5 x6 (0 : Int32)
  else
    some (I, (-4 : Int32))
  else none
theorem wX12_plant_b40 {G : Gx} {l : Launch} {σ : Shp} {I : Nat → Nat → Int32} {J : Nat → Nat → Int64} {D : Nat → Nat → UInt64} {R : Nat → Nat → Option Nat} {t : Nat} {I9 : Nat → Nat → Int32} {r9 : Int32} {x1 : Int32} {x2 : Int32} {x3 : Int32} {x4 : Int32} {x5 : Int32} {x6 : Int32} (h : fX12_plant_b40 σ R t I x1 x2 x3 x4 x5 x6 = some (I9, r9)) : WX12_plant G l σ (σ, I9, J, D, R) (some (vI r9)) (σ, I, J, D, R) 40 [(0, vR (some t)), (1, vI x1), (2, vI x2), (3, vI x3), (4, vI x4), (5, vI x5), (6, vI x6)] [] := by
  unfold fX12_plant_b40 at h
  refine r_aload_n (pc := 40) dX12_plant_40 rfl 0 rfl ?_
  obtain ⟨g1, h⟩ := gd h
  obtain ⟨r2, hc3, h⟩ := ob h
  refine r_callV1 (pc := 41) (av := []) (S := []) dX12_plant_41 (kX12_isFull hc3) g1 rfl mkX12_349 mwX12_isFull rfl ⟨Nat.le_of_ble_eq_true rfl, Nat.le_of_ble_eq_true rfl⟩ (Nat.le_of_ble_eq_true rfl) ⟨Nat.le_refl _, Nat.le_refl _⟩ (fun b => b) ?_
  refine r_if_eq (pc := 44) (tgt := 50) dX12_plant_44 rfl (fun c => ?_) (fun c => ?_)
  · have h := it h c
    refine r_iconst (pc := 50) dX12_plant_50 kc_iconst_0 ?_
    refine r_istore (pc := 51) (L' := [(7, vI (0 : Int32)), (0, vR (some t)), (1, vI x1), (2, vI x2), (3, vI x3), (4, vI x4), (5, vI x5), (6, vI x6)]) dX12_plant_51 (by decide) rfl ?_
    refine r_iload_n (pc := 53) dX12_plant_53 rfl 3 rfl ?_
    refine r_iconst (pc := 54) dX12_plant_54 kc_iconst_2 ?_
    refine r_icmp_ne (pc := 55) (tgt := 163) dX12_plant_55 rfl (fun c => ?_) (fun c => ?_)
    · have h := ie h c
      refine r_sub [1, 2, 3, 4, 5, 6, 7, 0] rfl ?_
      exact wX12_plant_b163 h
    · have h := it h c
      refine r_aload_n (pc := 58) dX12_plant_58 rfl 1 rfl ?_
      refine r_aload_n (pc := 59) dX12_plant_59 rfl 1 rfl ?_
      obtain ⟨a51, ha51, h⟩ := ob h
      refine r_getS (pc := 60) dX12_plant_60 fgX12_9 rfl g1 ha51 ?_
      refine r_iload (pc := 63) dX12_plant_63 6 rfl ?_
      obtain ⟨g52, h⟩ := gd h
      obtain ⟨g53, h⟩ := gd h
      refine r_iaload (pc := 65) dX12_plant_65 g52 g53 ?_
      refine r_bipush (pc := 66) dX12_plant_66 kc_bipush_16 ?_
      obtain ⟨r54, hc55, h⟩ := ob h
      refine r_callV1 (pc := 68) (av := [vI (I a51 (Int32.toNatClampNeg x5)), vI (16 : Int32)]) (S := []) dX12_plant_68 (kX12_isOf hc55) g1 rfl mkX12_363 mwX12_isOf rfl ⟨Nat.le_of_ble_eq_true rfl, Nat.le_of_ble_eq_true rfl⟩ (Nat.le_of_ble_eq_true rfl) ⟨Nat.le_refl _, Nat.le_refl _⟩ (fun b => b) ?_
      refine r_if_eq (pc := 71) (tgt := 90) dX12_plant_71 rfl (fun c => ?_) (fun c => ?_)
      · have h := it h c
        refine r_aload_n (pc := 90) dX12_plant_90 rfl 1 rfl ?_
        refine r_iconst (pc := 91) dX12_plant_91 kc_iconst_4 ?_
        obtain ⟨⟨I56, r57⟩, hc58, h⟩ := ob h
        refine r_callV1 (pc := 92) (av := [vI (4 : Int32)]) (S := []) dX12_plant_92 (kX12_no hc58) g1 rfl mkX12_308 mwX12_no rfl ⟨Nat.le_of_ble_eq_true rfl, Nat.le_of_ble_eq_true rfl⟩ (Nat.le_of_ble_eq_true rfl) ⟨Nat.le_refl _, Nat.le_refl _⟩ (fun b => b) ?_
        cases h
        exact r_iret dX12_plant_95
      · have h := ie h c
        refine r_aload_n (pc := 74) dX12_plant_74 rfl 1 rfl ?_
        refine r_aload_n (pc := 75) dX12_plant_75 rfl 1 rfl ?_
        refine r_getS (pc := 76) dX12_plant_76 fgX12_9 rfl g1 ha51 ?_
        refine r_iload (pc := 79) dX12_plant_79 7 rfl ?_
        obtain ⟨g59, h⟩ := gd h
        refine r_iaload (pc := 81) dX12_plant_81 g52 g59 ?_
        refine r_bipush (pc := 82) dX12_plant_82 kc_bipush_16 ?_
        obtain ⟨r60, hc61, h⟩ := ob h
        refine r_callV1 (pc := 84) (av := [vI (I a51 (Int32.toNatClampNeg x6)), vI (16 : Int32)]) (S := []) dX12_plant_84 (kX12_isOf hc61) g1 rfl mkX12_363 mwX12_isOf rfl ⟨Nat.le_of_ble_eq_true rfl, Nat.le_of_ble_eq_true rfl⟩ (Nat.le_of_ble_eq_true rfl) ⟨Nat.le_refl _, Nat.le_refl _⟩ (fun b => b) ?_
        refine r_ifne (pc := 87) (tgt := 96) dX12_plant_87 rfl (fun c => ?_) (fun c => ?_)
        · have h := ie h c
          refine r_iconst (pc := 96) dX12_plant_96 kc_iconst_1 ?_
          refine r_aload_n (pc := 97) dX12_plant_97 rfl 1 rfl ?_
          obtain ⟨a62, ha62, h⟩ := ob h
          refine r_getS (pc := 98) dX12_plant_98 fgX12_53 rfl g1 ha62 ?_
          refine r_aload_n (pc := 101) dX12_plant_101 rfl 1 rfl ?_
          refine r_getS (pc := 102) dX12_plant_102 fgX12_9 rfl g1 ha51 ?_
          refine r_iload (pc := 105) dX12_plant_105 6 rfl ?_
          refine r_iaload (pc := 107) dX12_plant_107 g52 g53 ?_
          obtain ⟨g63, h⟩ := gd h
          obtain ⟨g64, h⟩ := gd h
          refine r_baload (pc := 108) dX12_plant_108 g63 g64 ?_
          refine r_aload_n (pc := 109) dX12_plant_109 rfl 1 rfl ?_
          refine r_getS (pc := 110) dX12_plant_110 fgX12_53 rfl g1 ha62 ?_
          refine r_aload_n (pc := 113) dX12_plant_113 rfl 1 rfl ?_
          refine r_getS (pc := 114) dX12_plant_114 fgX12_9 rfl g1 ha51 ?_
          refine r_iload (pc := 117) dX12_plant_117 7 rfl ?_
          refine r_iaload (pc := 119) dX12_plant_119 g52 g59 ?_
          obtain ⟨g65, h⟩ := gd h
          refine r_baload (pc := 120) dX12_plant_120 g63 g65 ?_
          refine r_icmp_le (pc := 121) (tgt := 139) dX12_plant_121 rfl (fun c => ?_) (fun c => ?_)
          · have h := it h c
            refine r_aload_n (pc := 139) dX12_plant_139 rfl 1 rfl ?_
            refine r_getS (pc := 140) dX12_plant_140 fgX12_53 rfl g1 ha62 ?_
            refine r_aload_n (pc := 143) dX12_plant_143 rfl 1 rfl ?_
            refine r_getS (pc := 144) dX12_plant_144 fgX12_9 rfl g1 ha51 ?_
            refine r_iload (pc := 147) dX12_plant_147 7 rfl ?_
            refine r_iaload (pc := 149) dX12_plant_149 g52 g59 ?_
            refine r_baload (pc := 150) dX12_plant_150 g63 g65 ?_
            refine r_iadd (pc := 151) dX12_plant_151 ?_
            refine r_istore (pc := 152) (L' := [(7, vI ((1 : Int32) + (I a62 (Int32.toNatClampNeg (I a51 (Int32.toNatClampNeg x6)))))), (0, vR (some t)), (1, vI x1), (2, vI x2), (3, vI x3), (4, vI x4), (5, vI x5), (6, vI x6)]) dX12_plant_152 (by decide) rfl ?_
            refine r_iload (pc := 154) dX12_plant_154 0 rfl ?_
            refine r_iconst (pc := 156) dX12_plant_156 kc_iconst_4 ?_
            refine r_icmp_le (pc := 157) (tgt := 163) dX12_plant_157 rfl (fun c => ?_) (fun c => ?_)
            · have h := it h c
              refine r_sub [1, 2, 3, 4, 5, 6, 7, 0] rfl ?_
              exact wX12_plant_b163 h
            · have h := ie h c
              refine r_bipush (pc := 160) dX12_plant_160 kc_bipush_m4 ?_
              cases h
              exact r_iret dX12_plant_162
          · have h := ie h c
            refine r_aload_n (pc := 124) dX12_plant_124 rfl 1 rfl ?_
            refine r_getS (pc := 125) dX12_plant_125 fgX12_53 rfl g1 ha62 ?_
            refine r_aload_n (pc := 128) dX12_plant_128 rfl 1 rfl ?_
            refine r_getS (pc := 129) dX12_plant_129 fgX12_9 rfl g1 ha51 ?_
            refine r_iload (pc := 132) dX12_plant_132 6 rfl ?_
            refine r_iaload (pc := 134) dX12_plant_134 g52 g53 ?_
            refine r_baload (pc := 135) dX12_plant_135 g63 g64 ?_
            refine r_goto (pc := 136) (tgt := 151) dX12_plant_136 rfl ?_
            refine r_iadd (pc := 151) dX12_plant_151 ?_
            refine r_istore (pc := 152) (L' := [(7, vI ((1 : Int32) + (I a62 (Int32.toNatClampNeg (I a51 (Int32.toNatClampNeg x5)))))), (0, vR (some t)), (1, vI x1), (2, vI x2), (3, vI x3), (4, vI x4), (5, vI x5), (6, vI x6)]) dX12_plant_152 (by decide) rfl ?_
            refine r_iload (pc := 154) dX12_plant_154 0 rfl ?_
            refine r_iconst (pc := 156) dX12_plant_156 kc_iconst_4 ?_
            refine r_icmp_le (pc := 157) (tgt := 163) dX12_plant_157 rfl (fun c => ?_) (fun c => ?_)
            · have h := it h c
              refine r_sub [1, 2, 3, 4, 5, 6, 7, 0] rfl ?_
              exact wX12_plant_b163 h
            · have h := ie h c
              refine r_bipush (pc := 160) dX12_plant_160 kc_bipush_m4 ?_
              cases h
              exact r_iret dX12_plant_162
        · have h := it h c
          refine r_aload_n (pc := 90) dX12_plant_90 rfl 1 rfl ?_
          refine r_iconst (pc := 91) dX12_plant_91 kc_iconst_4 ?_
          obtain ⟨⟨I68, r69⟩, hc70, h⟩ := ob h
          refine r_callV1 (pc := 92) (av := [vI (4 : Int32)]) (S := []) dX12_plant_92 (kX12_no hc70) g1 rfl mkX12_308 mwX12_no rfl ⟨Nat.le_of_ble_eq_true rfl, Nat.le_of_ble_eq_true rfl⟩ (Nat.le_of_ble_eq_true rfl) ⟨Nat.le_refl _, Nat.le_refl _⟩ (fun b => b) ?_
          cases h
          exact r_iret dX12_plant_95
  · have h := ie h c
    refine r_bipush (pc := 47) dX12_plant_47 kc_bipush_m4 ?_
    cases h
    exact r_iret dX12_plant_49
def fX12_plant (σ : Shp) (I : Nat → Nat → Int32) (R : Nat → Nat → Option Nat) (t : Nat) (x1 : Int32) (x2 : Int32) (x3 : Int32) (x4 : Int32) (x5 : Int32) (x6 : Int32) : Option ((Nat → Nat → Int32) × (Int32)) :=
  if (fX12_isBin x1) = 0 then
    some (I, (-2 : Int32))
  else
    if (fX12_in x2 (0 : Int32) (5 : Int32)) = 0 then
      some (I, (-2 : Int32))
    else
      if x2 = (2 : Int32) then
        if (fX12_isBin x5) = 0 then
          some (I, (-2 : Int32))
        else
          if (fX12_isBin x6) = 0 then
            some (I, (-2 : Int32))
          else
            fX12_plant_b40 σ R t I x1 x2 x3 x4 x5 x6
      else
        fX12_plant_b40 σ R t I x1 x2 x3 x4 x5 x6
theorem kX12_plant {G : Gx} {l : Launch} {σ : Shp} {I : Nat → Nat → Int32} {J : Nat → Nat → Int64} {D : Nat → Nat → UInt64} {R : Nat → Nat → Option Nat} {t : Nat} {x1 : Int32} {x2 : Int32} {x3 : Int32} {x4 : Int32} {x5 : Int32} {x6 : Int32} {I9 : Nat → Nat → Int32} {r9 : Int32} (h : fX12_plant σ I R t x1 x2 x3 x4 x5 x6 = some (I9, r9)) : Con G l yX12_plant cX12_plant 9 (some .int) 1 22 [vR (some t), vI x1, vI x2, vI x3, vI x4, vI x5, vI x6] (σ, I, J, D, R) (σ, I9, J, D, R) (some (vI r9)) := by
  unfold fX12_plant at h
  refine Con.mk (by decide +kernel) rfl (Nat.le_of_ble_eq_true rfl) ?_
  show WX12_plant G l σ (σ, I9, J, D, R) (some (vI r9)) (σ, I, J, D, R) 0 _ []
  refine r_iload_n (pc := 0) dX12_plant_0 rfl 1 rfl ?_
  refine r_callS1 (pc := 1) (av := [vI x1]) (S := []) dX12_plant_1 (kX12_isBin rfl) mkX12_345 mwX12_isBin rfl ⟨Nat.le_of_ble_eq_true rfl, Nat.le_of_ble_eq_true rfl⟩ (Nat.le_of_ble_eq_true rfl) ⟨Nat.le_refl _, Nat.le_refl _⟩ (fun b => b) ?_
  refine r_if_eq (pc := 4) (tgt := 37) dX12_plant_4 rfl (fun c => ?_) (fun c => ?_)
  · have h := it h c
    refine r_bipush (pc := 37) dX12_plant_37 kc_bipush_m2 ?_
    cases h
    exact r_iret dX12_plant_39
  · have h := ie h c
    refine r_iload_n (pc := 7) dX12_plant_7 rfl 2 rfl ?_
    refine r_iconst (pc := 8) dX12_plant_8 kc_iconst_0 ?_
    refine r_iconst (pc := 9) dX12_plant_9 kc_iconst_5 ?_
    refine r_callS1 (pc := 10) (av := [vI x2, vI (0 : Int32), vI (5 : Int32)]) (S := []) dX12_plant_10 (kX12_in rfl) mkX12_322 mwX12_in rfl ⟨Nat.le_of_ble_eq_true rfl, Nat.le_of_ble_eq_true rfl⟩ (Nat.le_of_ble_eq_true rfl) ⟨Nat.le_refl _, Nat.le_refl _⟩ (fun b => b) ?_
    refine r_if_eq (pc := 13) (tgt := 37) dX12_plant_13 rfl (fun c => ?_) (fun c => ?_)
    · have h := it h c
      refine r_bipush (pc := 37) dX12_plant_37 kc_bipush_m2 ?_
      cases h
      exact r_iret dX12_plant_39
    · have h := ie h c
      refine r_iload_n (pc := 16) dX12_plant_16 rfl 2 rfl ?_
      refine r_iconst (pc := 17) dX12_plant_17 kc_iconst_2 ?_
      refine r_icmp_ne (pc := 18) (tgt := 40) dX12_plant_18 rfl (fun c => ?_) (fun c => ?_)
      · have h := ie h c
        refine r_sub [0, 1, 2, 3, 4, 5, 6] rfl ?_
        exact wX12_plant_b40 h
      · have h := it h c
        refine r_iload (pc := 21) dX12_plant_21 5 rfl ?_
        refine r_callS1 (pc := 23) (av := [vI x5]) (S := []) dX12_plant_23 (kX12_isBin rfl) mkX12_345 mwX12_isBin rfl ⟨Nat.le_of_ble_eq_true rfl, Nat.le_of_ble_eq_true rfl⟩ (Nat.le_of_ble_eq_true rfl) ⟨Nat.le_refl _, Nat.le_refl _⟩ (fun b => b) ?_
        refine r_if_eq (pc := 26) (tgt := 37) dX12_plant_26 rfl (fun c => ?_) (fun c => ?_)
        · have h := it h c
          refine r_bipush (pc := 37) dX12_plant_37 kc_bipush_m2 ?_
          cases h
          exact r_iret dX12_plant_39
        · have h := ie h c
          refine r_iload (pc := 29) dX12_plant_29 6 rfl ?_
          refine r_callS1 (pc := 31) (av := [vI x6]) (S := []) dX12_plant_31 (kX12_isBin rfl) mkX12_345 mwX12_isBin rfl ⟨Nat.le_of_ble_eq_true rfl, Nat.le_of_ble_eq_true rfl⟩ (Nat.le_of_ble_eq_true rfl) ⟨Nat.le_refl _, Nat.le_refl _⟩ (fun b => b) ?_
          refine r_ifne (pc := 34) (tgt := 40) dX12_plant_34 rfl (fun c => ?_) (fun c => ?_)
          · have h := ie h c
            refine r_sub [0, 1, 2, 3, 4, 5, 6] rfl ?_
            exact wX12_plant_b40 h
          · have h := it h c
            refine r_bipush (pc := 37) dX12_plant_37 kc_bipush_m2 ?_
            cases h
            exact r_iret dX12_plant_39
abbrev WX12_body (G : Gx) (l : Launch) (σ0 : Shp) (X1 : Stt) (rv : Option SV) : Stt → Nat → List (Nat × SV) → List SV → Prop := Wm G l yX12_body cX12_body 2 none (fun _ => True) (rmx 0 0 σ0 X1.1) σ0 (Qmx G σ0 X1 rv)
def fX12_body (σ : Shp) (I : Nat → Nat → Int32) (R : Nat → Nat → Option Nat) (t : Nat) (x1 : Int32) : Option ((Nat → Nat → Int32)) :=
  if kdx σ t = 13 then
  ((R t 23) : Option Nat).bind fun a2 =>
  if kdx σ a2 = 20 then
  if ¬ ((I t 24) < 0 ∨ lnx σ a2 ≤ Int32.toNatClampNeg (I t 24)) then
  let I5 := u2 I a2 (Int32.toNatClampNeg (I t 24)) x1
  let I6 := u2 I5 t 24 ((I5 t 24) + (1 : Int32))
  some I6
  else none
  else none
  else none
theorem kX12_body {G : Gx} {l : Launch} {σ : Shp} {I : Nat → Nat → Int32} {J : Nat → Nat → Int64} {D : Nat → Nat → UInt64} {R : Nat → Nat → Option Nat} {t : Nat} {x1 : Int32} {I9 : Nat → Nat → Int32} (h : fX12_body σ I R t x1 = some I9) : Con G l yX12_body cX12_body 2 none 0 0 [vR (some t), vI x1] (σ, I, J, D, R) (σ, I9, J, D, R) none := by
  unfold fX12_body at h
  refine Con.mk (by decide +kernel) rfl (Nat.le_of_ble_eq_true rfl) ?_
  show WX12_body G l σ (σ, I9, J, D, R) none (σ, I, J, D, R) 0 _ []
  refine r_aload_n (pc := 0) dX12_body_0 rfl 0 rfl ?_
  obtain ⟨g1, h⟩ := gd h
  obtain ⟨a2, ha2, h⟩ := ob h
  refine r_getS (pc := 1) dX12_body_1 fgX12_59 rfl g1 ha2 ?_
  refine r_aload_n (pc := 4) dX12_body_4 rfl 0 rfl ?_
  refine r_getI (pc := 5) dX12_body_5 fgX12_438 rfl g1 ?_
  refine r_iload_n (pc := 8) dX12_body_8 rfl 1 rfl ?_
  obtain ⟨g3, h⟩ := gd h
  obtain ⟨g4, h⟩ := gd h
  refine r_iastore (pc := 9) dX12_body_9 g3 g4 ?_
  refine r_aload_n (pc := 10) dX12_body_10 rfl 0 rfl ?_
  refine r_dup (pc := 11) dX12_body_11 rfl ?_
  refine r_getI (pc := 12) dX12_body_12 fgX12_438 rfl g1 ?_
  refine r_iconst (pc := 15) dX12_body_15 kc_iconst_1 ?_
  refine r_iadd (pc := 16) dX12_body_16 ?_
  refine r_putI (pc := 17) dX12_body_17 fwX12_438 rfl g1 ?_
  cases h
  exact r_vret dX12_body_20
abbrev WX12_plainSize (G : Gx) (l : Launch) (σ0 : Shp) (X1 : Stt) (rv : Option SV) : Stt → Nat → List (Nat × SV) → List SV → Prop := Wm G l yX12_plainSize cX12_plainSize 2 (some .int) (fun _ => True) (rmx 1 21 σ0 X1.1) σ0 (Qmx G σ0 X1 rv)
def fX12_plainSize_b62  (σ : Shp) (R : Nat → Nat → Option Nat) (t : Nat) (I : Nat → Nat → Int32) (x1 : Int32) : Option ((Nat → Nat → Int32) × (Int32)) :=
  if kdx σ t = 13 then
  ((R t 12) : Option Nat).bind fun a12 =>
  if kdx σ a12 = 22 then
  if ¬ (x1 < 0 ∨ lnx σ a12 ≤ Int32.toNatClampNeg x1) then
  if (I a12 (Int32.toNatClampNeg x1)) = (1 : Int32) then
    ((R t 13) : Option Nat).bind fun a25 =>
    if kdx σ a25 = 20 then
    if ¬ (x1 < 0 ∨ lnx σ a25 ≤ Int32.toNatClampNeg x1) then
    ((R t 14) : Option Nat).bind fun a28 =>
    if kdx σ a28 = 20 then
    if ¬ (x1 < 0 ∨ lnx σ a28 ≤ Int32.toNatClampNeg x1) then
    some (I, (((2 : Int32) * (I a25 (Int32.toNatClampNeg x1))) + (I a28 (Int32.toNatClampNeg x1))))
    else none
    else none
    else none
    else none
  else
    if (I a12 (Int32.toNatClampNeg x1)) = (3 : Int32) then
      ((R t 13) : Option Nat).bind fun a18 =>
      if kdx σ a18 = 20 then
      if ¬ (x1 < 0 ∨ lnx σ a18 ≤ Int32.toNatClampNeg x1) then
      ((R t 14) : Option Nat).bind fun a21 =>
      if kdx σ a21 = 20 then
      if ¬ (x1 < 0 ∨ lnx σ a21 ≤ Int32.toNatClampNeg x1) then
      if ¬ (I a21 (Int32.toNatClampNeg x1)) = 0 then
      some (I, ((I a18 (Int32.toNatClampNeg x1)) / (I a21 (Int32.toNatClampNeg x1))))
      else none
      else none
      else none
      else none
      else none
    else
      ((R t 13) : Option Nat).bind fun a15 =>
      if kdx σ a15 = 20 then
      if ¬ (x1 < 0 ∨ lnx σ a15 ≤ Int32.toNatClampNeg x1) then
      some (I, (I a15 (Int32.toNatClampNeg x1)))
      else none
      else none
  else none
  else none
  else none
theorem wX12_plainSize_b62 {G : Gx} {l : Launch} {σ : Shp} {I : Nat → Nat → Int32} {J : Nat → Nat → Int64} {D : Nat → Nat → UInt64} {R : Nat → Nat → Option Nat} {t : Nat} {I9 : Nat → Nat → Int32} {r9 : Int32} {x1 : Int32} (h : fX12_plainSize_b62 σ R t I x1 = some (I9, r9)) : WX12_plainSize G l σ (σ, I9, J, D, R) (some (vI r9)) (σ, I, J, D, R) 62 [(0, vR (some t)), (1, vI x1)] [] := by
  unfold fX12_plainSize_b62 at h
  refine r_aload_n (pc := 62) dX12_plainSize_62 rfl 0 rfl ?_
  obtain ⟨g11, h⟩ := gd h
  obtain ⟨a12, ha12, h⟩ := ob h
  refine r_getS (pc := 63) dX12_plainSize_63 fgX12_38 rfl g11 ha12 ?_
  refine r_iload_n (pc := 66) dX12_plainSize_66 rfl 1 rfl ?_
  obtain ⟨g13, h⟩ := gd h
  obtain ⟨g14, h⟩ := gd h
  refine r_baload (pc := 67) dX12_plainSize_67 g13 g14 ?_
  refine r_iconst (pc := 68) dX12_plainSize_68 kc_iconst_1 ?_
  refine r_icmp_ne (pc := 69) (tgt := 90) dX12_plainSize_69 rfl (fun c => ?_) (fun c => ?_)
  · have h := ie h c
    refine r_aload_n (pc := 90) dX12_plainSize_90 rfl 0 rfl ?_
    refine r_getS (pc := 91) dX12_plainSize_91 fgX12_38 rfl g11 ha12 ?_
    refine r_iload_n (pc := 94) dX12_plainSize_94 rfl 1 rfl ?_
    refine r_baload (pc := 95) dX12_plainSize_95 g13 g14 ?_
    refine r_iconst (pc := 96) dX12_plainSize_96 kc_iconst_3 ?_
    refine r_icmp_ne (pc := 97) (tgt := 116) dX12_plainSize_97 rfl (fun c => ?_) (fun c => ?_)
    · have h := ie h c
      refine r_aload_n (pc := 116) dX12_plainSize_116 rfl 0 rfl ?_
      obtain ⟨a15, ha15, h⟩ := ob h
      refine r_getS (pc := 117) dX12_plainSize_117 fgX12_41 rfl g11 ha15 ?_
      refine r_iload_n (pc := 120) dX12_plainSize_120 rfl 1 rfl ?_
      obtain ⟨g16, h⟩ := gd h
      obtain ⟨g17, h⟩ := gd h
      refine r_iaload (pc := 121) dX12_plainSize_121 g16 g17 ?_
      cases h
      exact r_iret dX12_plainSize_122
    · have h := it h c
      refine r_aload_n (pc := 100) dX12_plainSize_100 rfl 0 rfl ?_
      obtain ⟨a18, ha18, h⟩ := ob h
      refine r_getS (pc := 101) dX12_plainSize_101 fgX12_41 rfl g11 ha18 ?_
      refine r_iload_n (pc := 104) dX12_plainSize_104 rfl 1 rfl ?_
      obtain ⟨g19, h⟩ := gd h
      obtain ⟨g20, h⟩ := gd h
      refine r_iaload (pc := 105) dX12_plainSize_105 g19 g20 ?_
      refine r_aload_n (pc := 106) dX12_plainSize_106 rfl 0 rfl ?_
      obtain ⟨a21, ha21, h⟩ := ob h
      refine r_getS (pc := 107) dX12_plainSize_107 fgX12_44 rfl g11 ha21 ?_
      refine r_iload_n (pc := 110) dX12_plainSize_110 rfl 1 rfl ?_
      obtain ⟨g22, h⟩ := gd h
      obtain ⟨g23, h⟩ := gd h
      refine r_iaload (pc := 111) dX12_plainSize_111 g22 g23 ?_
      obtain ⟨g24, h⟩ := gd h
      refine r_idiv (pc := 112) dX12_plainSize_112 g24 ?_
      refine r_goto (pc := 113) (tgt := 122) dX12_plainSize_113 rfl ?_
      cases h
      exact r_iret dX12_plainSize_122
  · have h := it h c
    refine r_iconst (pc := 72) dX12_plainSize_72 kc_iconst_2 ?_
    refine r_aload_n (pc := 73) dX12_plainSize_73 rfl 0 rfl ?_
    obtain ⟨a25, ha25, h⟩ := ob h
    refine r_getS (pc := 74) dX12_plainSize_74 fgX12_41 rfl g11 ha25 ?_
    refine r_iload_n (pc := 77) dX12_plainSize_77 rfl 1 rfl ?_
    obtain ⟨g26, h⟩ := gd h
    obtain ⟨g27, h⟩ := gd h
    refine r_iaload (pc := 78) dX12_plainSize_78 g26 g27 ?_
    refine r_imul (pc := 79) dX12_plainSize_79 ?_
    refine r_aload_n (pc := 80) dX12_plainSize_80 rfl 0 rfl ?_
    obtain ⟨a28, ha28, h⟩ := ob h
    refine r_getS (pc := 81) dX12_plainSize_81 fgX12_44 rfl g11 ha28 ?_
    refine r_iload_n (pc := 84) dX12_plainSize_84 rfl 1 rfl ?_
    obtain ⟨g29, h⟩ := gd h
    obtain ⟨g30, h⟩ := gd h
    refine r_iaload (pc := 85) dX12_plainSize_85 g29 g30 ?_
    refine r_iadd (pc := 86) dX12_plainSize_86 ?_
    refine r_goto (pc := 87) (tgt := 122) dX12_plainSize_87 rfl ?_
    cases h
    exact r_iret dX12_plainSize_122
def fX12_plainSize_b30  (σ : Shp) (R : Nat → Nat → Option Nat) (t : Nat) (I : Nat → Nat → Int32) (x1 : Int32) : Option ((Nat → Nat → Int32) × (Int32)) :=
  if kdx σ t = 13 then
  (fX12_body σ I R t (1 : Int32)).bind fun I6 =>
  ((R t 12) : Option Nat).bind fun a8 =>
  if kdx σ a8 = 22 then
  if ¬ (x1 < 0 ∨ lnx σ a8 ≤ Int32.toNatClampNeg x1) then
  if (I6 a8 (Int32.toNatClampNeg x1)) = (3 : Int32) then
    ((R t 14) : Option Nat).bind fun a31 =>
    if kdx σ a31 = 20 then
    if ¬ (x1 < 0 ∨ lnx σ a31 ≤ Int32.toNatClampNeg x1) then
    if (I6 a31 (Int32.toNatClampNeg x1)) = 0 then
      let I34 := u2 I6 t 30 (6 : Int32)
      some (I34, (0 : Int32))
    else
      fX12_plainSize_b62 σ R t I6 x1
    else none
    else none
  else
    fX12_plainSize_b62 σ R t I6 x1
  else none
  else none
  else none
theorem wX12_plainSize_b30 {G : Gx} {l : Launch} {σ : Shp} {I : Nat → Nat → Int32} {J : Nat → Nat → Int64} {D : Nat → Nat → UInt64} {R : Nat → Nat → Option Nat} {t : Nat} {I9 : Nat → Nat → Int32} {r9 : Int32} {x1 : Int32} (h : fX12_plainSize_b30 σ R t I x1 = some (I9, r9)) : WX12_plainSize G l σ (σ, I9, J, D, R) (some (vI r9)) (σ, I, J, D, R) 30 [(0, vR (some t)), (1, vI x1)] [] := by
  unfold fX12_plainSize_b30 at h
  refine r_aload_n (pc := 30) dX12_plainSize_30 rfl 0 rfl ?_
  refine r_iconst (pc := 31) dX12_plainSize_31 kc_iconst_1 ?_
  obtain ⟨g5, h⟩ := gd h
  obtain ⟨I6, hc7, h⟩ := ob h
  refine r_callV0 (pc := 32) (av := [vI (1 : Int32)]) (S := []) dX12_plainSize_32 (kX12_body hc7) g5 rfl mkX12_441 mwX12_body rfl ⟨Nat.le_of_ble_eq_true rfl, Nat.le_of_ble_eq_true rfl⟩ (Nat.le_of_ble_eq_true rfl) ⟨Nat.le_refl _, Nat.le_refl _⟩ (fun b => b) ?_
  refine r_aload_n (pc := 35) dX12_plainSize_35 rfl 0 rfl ?_
  obtain ⟨a8, ha8, h⟩ := ob h
  refine r_getS (pc := 36) dX12_plainSize_36 fgX12_38 rfl g5 ha8 ?_
  refine r_iload_n (pc := 39) dX12_plainSize_39 rfl 1 rfl ?_
  obtain ⟨g9, h⟩ := gd h
  obtain ⟨g10, h⟩ := gd h
  refine r_baload (pc := 40) dX12_plainSize_40 g9 g10 ?_
  refine r_iconst (pc := 41) dX12_plainSize_41 kc_iconst_3 ?_
  refine r_icmp_ne (pc := 42) (tgt := 62) dX12_plainSize_42 rfl (fun c => ?_) (fun c => ?_)
  · have h := ie h c
    refine r_sub [0, 1] rfl ?_
    exact wX12_plainSize_b62 h
  · have h := it h c
    refine r_aload_n (pc := 45) dX12_plainSize_45 rfl 0 rfl ?_
    obtain ⟨a31, ha31, h⟩ := ob h
    refine r_getS (pc := 46) dX12_plainSize_46 fgX12_44 rfl g5 ha31 ?_
    refine r_iload_n (pc := 49) dX12_plainSize_49 rfl 1 rfl ?_
    obtain ⟨g32, h⟩ := gd h
    obtain ⟨g33, h⟩ := gd h
    refine r_iaload (pc := 50) dX12_plainSize_50 g32 g33 ?_
    refine r_ifne (pc := 51) (tgt := 62) dX12_plainSize_51 rfl (fun c => ?_) (fun c => ?_)
    · have h := ie h c
      refine r_sub [0, 1] rfl ?_
      exact wX12_plainSize_b62 h
    · have h := it h c
      refine r_aload_n (pc := 54) dX12_plainSize_54 rfl 0 rfl ?_
      refine r_bipush (pc := 55) dX12_plainSize_55 kc_bipush_6 ?_
      refine r_putI (pc := 57) dX12_plainSize_57 fwX12_445 rfl g5 ?_
      refine r_iconst (pc := 60) dX12_plainSize_60 kc_iconst_0 ?_
      cases h
      exact r_iret dX12_plainSize_61
def fX12_plainSize (σ : Shp) (I : Nat → Nat → Int32) (R : Nat → Nat → Option Nat) (t : Nat) (x1 : Int32) : Option ((Nat → Nat → Int32) × (Int32)) :=
  if kdx σ t = 13 then
  ((R t 12) : Option Nat).bind fun a2 =>
  if kdx σ a2 = 22 then
  if ¬ (x1 < 0 ∨ lnx σ a2 ≤ Int32.toNatClampNeg x1) then
  if (I a2 (Int32.toNatClampNeg x1)) = (1 : Int32) then
    (fX12_body σ I R t (2 : Int32)).bind fun I37 =>
    if (I37 a2 (Int32.toNatClampNeg x1)) = (3 : Int32) then
      (fX12_body σ I37 R t (4 : Int32)).bind fun I39 =>
      fX12_plainSize_b30 σ R t I39 x1
    else
      fX12_plainSize_b30 σ R t I37 x1
  else
    if (I a2 (Int32.toNatClampNeg x1)) = (3 : Int32) then
      (fX12_body σ I R t (4 : Int32)).bind fun I35 =>
      fX12_plainSize_b30 σ R t I35 x1
    else
      fX12_plainSize_b30 σ R t I x1
  else none
  else none
  else none
theorem kX12_plainSize {G : Gx} {l : Launch} {σ : Shp} {I : Nat → Nat → Int32} {J : Nat → Nat → Int64} {D : Nat → Nat → UInt64} {R : Nat → Nat → Option Nat} {t : Nat} {x1 : Int32} {I9 : Nat → Nat → Int32} {r9 : Int32} (h : fX12_plainSize σ I R t x1 = some (I9, r9)) : Con G l yX12_plainSize cX12_plainSize 2 (some .int) 1 21 [vR (some t), vI x1] (σ, I, J, D, R) (σ, I9, J, D, R) (some (vI r9)) := by
  unfold fX12_plainSize at h
  refine Con.mk (by decide +kernel) rfl (Nat.le_of_ble_eq_true rfl) ?_
  show WX12_plainSize G l σ (σ, I9, J, D, R) (some (vI r9)) (σ, I, J, D, R) 0 _ []
  refine r_aload_n (pc := 0) dX12_plainSize_0 rfl 0 rfl ?_
  obtain ⟨g1, h⟩ := gd h
  obtain ⟨a2, ha2, h⟩ := ob h
  refine r_getS (pc := 1) dX12_plainSize_1 fgX12_38 rfl g1 ha2 ?_
  refine r_iload_n (pc := 4) dX12_plainSize_4 rfl 1 rfl ?_
  obtain ⟨g3, h⟩ := gd h
  obtain ⟨g4, h⟩ := gd h
  refine r_baload (pc := 5) dX12_plainSize_5 g3 g4 ?_
  refine r_iconst (pc := 6) dX12_plainSize_6 kc_iconst_1 ?_
  refine r_icmp_ne (pc := 7) (tgt := 15) dX12_plainSize_7 rfl (fun c => ?_) (fun c => ?_)
  · have h := ie h c
    refine r_aload_n (pc := 15) dX12_plainSize_15 rfl 0 rfl ?_
    refine r_getS (pc := 16) dX12_plainSize_16 fgX12_38 rfl g1 ha2 ?_
    refine r_iload_n (pc := 19) dX12_plainSize_19 rfl 1 rfl ?_
    refine r_baload (pc := 20) dX12_plainSize_20 g3 g4 ?_
    refine r_iconst (pc := 21) dX12_plainSize_21 kc_iconst_3 ?_
    refine r_icmp_ne (pc := 22) (tgt := 30) dX12_plainSize_22 rfl (fun c => ?_) (fun c => ?_)
    · have h := ie h c
      refine r_sub [0, 1] rfl ?_
      exact wX12_plainSize_b30 h
    · have h := it h c
      refine r_aload_n (pc := 25) dX12_plainSize_25 rfl 0 rfl ?_
      refine r_iconst (pc := 26) dX12_plainSize_26 kc_iconst_4 ?_
      obtain ⟨I35, hc36, h⟩ := ob h
      refine r_callV0 (pc := 27) (av := [vI (4 : Int32)]) (S := []) dX12_plainSize_27 (kX12_body hc36) g1 rfl mkX12_441 mwX12_body rfl ⟨Nat.le_of_ble_eq_true rfl, Nat.le_of_ble_eq_true rfl⟩ (Nat.le_of_ble_eq_true rfl) ⟨Nat.le_refl _, Nat.le_refl _⟩ (fun b => b) ?_
      refine r_sub [0, 1] rfl ?_
      exact wX12_plainSize_b30 h
  · have h := it h c
    refine r_aload_n (pc := 10) dX12_plainSize_10 rfl 0 rfl ?_
    refine r_iconst (pc := 11) dX12_plainSize_11 kc_iconst_2 ?_
    obtain ⟨I37, hc38, h⟩ := ob h
    refine r_callV0 (pc := 12) (av := [vI (2 : Int32)]) (S := []) dX12_plainSize_12 (kX12_body hc38) g1 rfl mkX12_441 mwX12_body rfl ⟨Nat.le_of_ble_eq_true rfl, Nat.le_of_ble_eq_true rfl⟩ (Nat.le_of_ble_eq_true rfl) ⟨Nat.le_refl _, Nat.le_refl _⟩ (fun b => b) ?_
    refine r_aload_n (pc := 15) dX12_plainSize_15 rfl 0 rfl ?_
    refine r_getS (pc := 16) dX12_plainSize_16 fgX12_38 rfl g1 ha2 ?_
    refine r_iload_n (pc := 19) dX12_plainSize_19 rfl 1 rfl ?_
    refine r_baload (pc := 20) dX12_plainSize_20 g3 g4 ?_
    refine r_iconst (pc := 21) dX12_plainSize_21 kc_iconst_3 ?_
    refine r_icmp_ne (pc := 22) (tgt := 30) dX12_plainSize_22 rfl (fun c => ?_) (fun c => ?_)
    · have h := ie h c
      refine r_sub [0, 1] rfl ?_
      exact wX12_plainSize_b30 h
    · have h := it h c
      refine r_aload_n (pc := 25) dX12_plainSize_25 rfl 0 rfl ?_
      refine r_iconst (pc := 26) dX12_plainSize_26 kc_iconst_4 ?_
      obtain ⟨I39, hc40, h⟩ := ob h
      refine r_callV0 (pc := 27) (av := [vI (4 : Int32)]) (S := []) dX12_plainSize_27 (kX12_body hc40) g1 rfl mkX12_441 mwX12_body rfl ⟨Nat.le_of_ble_eq_true rfl, Nat.le_of_ble_eq_true rfl⟩ (Nat.le_of_ble_eq_true rfl) ⟨Nat.le_refl _, Nat.le_refl _⟩ (fun b => b) ?_
      refine r_sub [0, 1] rfl ?_
      exact wX12_plainSize_b30 h
abbrev WX12_sizeOf (G : Gx) (l : Launch) (σ0 : Shp) (X1 : Stt) (rv : Option SV) : Stt → Nat → List (Nat × SV) → List SV → Prop := Wm G l yX12_sizeOf cX12_sizeOf 7 (some .int) (fun _ => True) (rmx 2 42 σ0 X1.1) σ0 (Qmx G σ0 X1 rv)
def fX12_sizeOf_b193 (q18 : (Nat → Nat → Int32) → (Int32) → (Int32) → (Option ((Nat → Nat → Int32) × (Int32)))) (σ : Shp) (R : Nat → Nat → Option Nat) (t : Nat) (I : Nat → Nat → Int32) (x2 : Int32) (x3 : Int32) (s0 : Int32) : Option ((Nat → Nat → Int32) × (Int32)) :=
  if s0 = 0 then
    if kdx σ t = 13 then
    let I49 := u2 I t 30 (1 : Int32)
    q18 I49 x2 x3
    else none
  else
    if kdx σ t = 13 then
    ((R t 26) : Option Nat).bind fun a39 =>
    if kdx σ a39 = 20 then
    if ¬ (x2 < 0 ∨ lnx σ a39 ≤ Int32.toNatClampNeg x2) then
    let I42 := u2 I a39 (Int32.toNatClampNeg x2) s0
    ((R t 27) : Option Nat).bind fun a43 =>
    if kdx σ a43 = 20 then
    if ¬ (x2 < 0 ∨ lnx σ a43 ≤ Int32.toNatClampNeg x2) then
    let I46 := u2 I42 a43 (Int32.toNatClampNeg x2) (0 : Int32)
    let v47 := x2 + (1 : Int32)
    q18 I46 v47 x3
    else none
    else none
    else none
    else none
    else none
theorem wX12_sizeOf_b193 {G : Gx} {l : Launch} {σ : Shp} {I : Nat → Nat → Int32} {J : Nat → Nat → Int64} {D : Nat → Nat → UInt64} {R : Nat → Nat → Option Nat} {t : Nat} {I9 : Nat → Nat → Int32} {r9 : Int32} {q18 : (Nat → Nat → Int32) → (Int32) → (Int32) → (Option ((Nat → Nat → Int32) × (Int32)))} {x2 : Int32} {x3 : Int32} {s0 : Int32} (hq18 : ∀ (I : Nat → Nat → Int32) (x2 : Int32) (x3 : Int32), q18 I x2 x3 = some (I9, r9) → WX12_sizeOf G l σ (σ, I9, J, D, R) (some (vI r9)) (σ, I, J, D, R) 18 [(0, vR (some t)), (2, vI x2), (3, vI x3)] []) (h : fX12_sizeOf_b193 q18 σ R t I x2 x3 s0 = some (I9, r9)) : WX12_sizeOf G l σ (σ, I9, J, D, R) (some (vI r9)) (σ, I, J, D, R) 193 [(0, vR (some t)), (2, vI x2), (3, vI x3)] [vI s0] := by
  unfold fX12_sizeOf_b193 at h
  refine r_istore (pc := 193) (L' := [(6, vI s0), (0, vR (some t)), (2, vI x2), (3, vI x3)]) dX12_sizeOf_193 (by decide) rfl ?_
  refine r_iload (pc := 195) dX12_sizeOf_195 0 rfl ?_
  refine r_ifne (pc := 197) (tgt := 208) dX12_sizeOf_197 rfl (fun c => ?_) (fun c => ?_)
  · have h := ie h c
    refine r_aload_n (pc := 208) dX12_sizeOf_208 rfl 1 rfl ?_
    obtain ⟨g38, h⟩ := gd h
    obtain ⟨a39, ha39, h⟩ := ob h
    refine r_getS (pc := 209) dX12_sizeOf_209 fgX12_62 rfl g38 ha39 ?_
    refine r_iload_n (pc := 212) dX12_sizeOf_212 rfl 2 rfl ?_
    refine r_iload (pc := 213) dX12_sizeOf_213 0 rfl ?_
    obtain ⟨g40, h⟩ := gd h
    obtain ⟨g41, h⟩ := gd h
    refine r_iastore (pc := 215) dX12_sizeOf_215 g40 g41 ?_
    refine r_aload_n (pc := 216) dX12_sizeOf_216 rfl 1 rfl ?_
    obtain ⟨a43, ha43, h⟩ := ob h
    refine r_getS (pc := 217) dX12_sizeOf_217 fgX12_65 rfl g38 ha43 ?_
    refine r_iload_n (pc := 220) dX12_sizeOf_220 rfl 2 rfl ?_
    refine r_iconst (pc := 221) dX12_sizeOf_221 kc_iconst_0 ?_
    obtain ⟨g44, h⟩ := gd h
    obtain ⟨g45, h⟩ := gd h
    refine r_iastore (pc := 222) dX12_sizeOf_222 g44 g45 ?_
    refine r_iinc (pc := 223) (v := (x2 + (1 : Int32))) (L' := [(2, vI (x2 + (1 : Int32))), (6, vI s0), (0, vR (some t)), (3, vI x3)]) dX12_sizeOf_223 2 rfl (kc_inc_1 _) (by decide) rfl ?_
    refine r_goto (pc := 226) (tgt := 18) dX12_sizeOf_226 rfl ?_
    refine r_sub [2, 0, 3] rfl ?_
    exact hq18 _ _ _ h
  · have h := it h c
    refine r_aload_n (pc := 200) dX12_sizeOf_200 rfl 1 rfl ?_
    refine r_iconst (pc := 201) dX12_sizeOf_201 kc_iconst_1 ?_
    obtain ⟨g48, h⟩ := gd h
    refine r_putI (pc := 202) dX12_sizeOf_202 fwX12_445 rfl g48 ?_
    refine r_goto (pc := 205) (tgt := 226) dX12_sizeOf_205 rfl ?_
    refine r_goto (pc := 226) (tgt := 18) dX12_sizeOf_226 rfl ?_
    refine r_sub [1, 2, 3] rfl ?_
    exact hq18 _ _ _ h
def fX12_sizeOf_b109 (q18 : (Nat → Nat → Int32) → (Int32) → (Int32) → (Option ((Nat → Nat → Int32) × (Int32)))) (σ : Shp) (R : Nat → Nat → Option Nat) (t : Nat) (I : Nat → Nat → Int32) (x2 : Int32) (x3 : Int32) (x4 : Int32) (x5 : Int32) (s0 : Option Nat) (s1 : Int32) (s2 : Int32) : Option ((Nat → Nat → Int32) × (Int32)) :=
  (s0 : Option Nat).bind fun a26 =>
  if kdx σ a26 = 20 then
  if ¬ (s1 < 0 ∨ lnx σ a26 ≤ Int32.toNatClampNeg s1) then
  let I29 := u2 I a26 (Int32.toNatClampNeg s1) s2
  if kdx σ t = 13 then
  ((R t 27) : Option Nat).bind fun a31 =>
  if kdx σ a31 = 20 then
  if ¬ ((x2 - (1 : Int32)) < 0 ∨ lnx σ a31 ≤ Int32.toNatClampNeg (x2 - (1 : Int32))) then
  let I34 := u2 I29 a31 (Int32.toNatClampNeg (x2 - (1 : Int32))) ((I29 a31 (Int32.toNatClampNeg (x2 - (1 : Int32)))) + (1 : Int32))
  if x5 = (2 : Int32) then
    (fX12_body σ I34 R t (2 : Int32)).bind fun I53 =>
    (fX12_body σ I53 R t (1 : Int32)).bind fun I55 =>
    ((R t 28) : Option Nat).bind fun a57 =>
    if kdx σ a57 = 20 then
    if ¬ ((x2 - (1 : Int32)) < 0 ∨ lnx σ a57 ≤ Int32.toNatClampNeg (x2 - (1 : Int32))) then
    ((R t 13) : Option Nat).bind fun a60 =>
    if kdx σ a60 = 20 then
    if ¬ (x4 < 0 ∨ lnx σ a60 ≤ Int32.toNatClampNeg x4) then
    ((R t 14) : Option Nat).bind fun a63 =>
    if kdx σ a63 = 20 then
    if ¬ (x4 < 0 ∨ lnx σ a63 ≤ Int32.toNatClampNeg x4) then
    let v66 := (((I55 a57 (Int32.toNatClampNeg (x2 - (1 : Int32)))) + ((2 : Int32) * (I55 a60 (Int32.toNatClampNeg x4)))) + (I55 a63 (Int32.toNatClampNeg x4)))
    let v67 := x2 + (-1 : Int32)
    q18 I55 v67 v66
    else none
    else none
    else none
    else none
    else none
    else none
  else
    if x5 = 0 then
      ((R t 15) : Option Nat).bind fun a50 =>
      if kdx σ a50 = 23 then
      if ¬ (x4 < 0 ∨ lnx σ a50 ≤ Int32.toNatClampNeg x4) then
      fX12_sizeOf_b193 q18 σ R t I34 x2 x3 (I34 a50 (Int32.toNatClampNeg x4))
      else none
      else none
    else
      ((R t 16) : Option Nat).bind fun a35 =>
      if kdx σ a35 = 23 then
      if ¬ (x4 < 0 ∨ lnx σ a35 ≤ Int32.toNatClampNeg x4) then
      fX12_sizeOf_b193 q18 σ R t I34 x2 x3 (I34 a35 (Int32.toNatClampNeg x4))
      else none
      else none
  else none
  else none
  else none
  else none
  else none
theorem wX12_sizeOf_b109 {G : Gx} {l : Launch} {σ : Shp} {I : Nat → Nat → Int32} {J : Nat → Nat → Int64} {D : Nat → Nat → UInt64} {R : Nat → Nat → Option Nat} {t : Nat} {I9 : Nat → Nat → Int32} {r9 : Int32} {q18 : (Nat → Nat → Int32) → (Int32) → (Int32) → (Option ((Nat → Nat → Int32) × (Int32)))} {x2 : Int32} {x3 : Int32} {x4 : Int32} {x5 : Int32} {s0 : Option Nat} {s1 : Int32} {s2 : Int32} (hq18 : ∀ (I : Nat → Nat → Int32) (x2 : Int32) (x3 : Int32), q18 I x2 x3 = some (I9, r9) → WX12_sizeOf G l σ (σ, I9, J, D, R) (some (vI r9)) (σ, I, J, D, R) 18 [(0, vR (some t)), (2, vI x2), (3, vI x3)] []) (h : fX12_sizeOf_b109 q18 σ R t I x2 x3 x4 x5 s0 s1 s2 = some (I9, r9)) : WX12_sizeOf G l σ (σ, I9, J, D, R) (some (vI r9)) (σ, I, J, D, R) 109 [(0, vR (some t)), (2, vI x2), (3, vI x3), (4, vI x4), (5, vI x5)] [vI s2, vI s1, vR s0] := by
  unfold fX12_sizeOf_b109 at h
  obtain ⟨a26, ha26, h⟩ := ob h
  refine r_ref2 ha26 ?_
  obtain ⟨g27, h⟩ := gd h
  obtain ⟨g28, h⟩ := gd h
  refine r_iastore (pc := 109) dX12_sizeOf_109 g27 g28 ?_
  refine r_aload_n (pc := 110) dX12_sizeOf_110 rfl 0 rfl ?_
  obtain ⟨g30, h⟩ := gd h
  obtain ⟨a31, ha31, h⟩ := ob h
  refine r_getS (pc := 111) dX12_sizeOf_111 fgX12_65 rfl g30 ha31 ?_
  refine r_iload_n (pc := 114) dX12_sizeOf_114 rfl 1 rfl ?_
  refine r_iconst (pc := 115) dX12_sizeOf_115 kc_iconst_1 ?_
  refine r_isub (pc := 116) dX12_sizeOf_116 ?_
  refine r_dup2 (pc := 117) dX12_sizeOf_117 rfl rfl ?_
  obtain ⟨g32, h⟩ := gd h
  obtain ⟨g33, h⟩ := gd h
  refine r_iaload (pc := 118) dX12_sizeOf_118 g32 g33 ?_
  refine r_iconst (pc := 119) dX12_sizeOf_119 kc_iconst_1 ?_
  refine r_iadd (pc := 120) dX12_sizeOf_120 ?_
  refine r_iastore (pc := 121) dX12_sizeOf_121 g32 g33 ?_
  refine r_iload (pc := 122) dX12_sizeOf_122 4 rfl ?_
  refine r_iconst (pc := 124) dX12_sizeOf_124 kc_iconst_2 ?_
  refine r_icmp_ne (pc := 125) (tgt := 171) dX12_sizeOf_125 rfl (fun c => ?_) (fun c => ?_)
  · have h := ie h c
    refine r_iload (pc := 171) dX12_sizeOf_171 4 rfl ?_
    refine r_ifne (pc := 173) (tgt := 186) dX12_sizeOf_173 rfl (fun c => ?_) (fun c => ?_)
    · have h := ie h c
      refine r_aload_n (pc := 186) dX12_sizeOf_186 rfl 0 rfl ?_
      obtain ⟨a35, ha35, h⟩ := ob h
      refine r_getS (pc := 187) dX12_sizeOf_187 fgX12_50 rfl g30 ha35 ?_
      refine r_iload (pc := 190) dX12_sizeOf_190 3 rfl ?_
      obtain ⟨g36, h⟩ := gd h
      obtain ⟨g37, h⟩ := gd h
      refine r_saload (pc := 192) dX12_sizeOf_192 g36 g37 ?_
      refine r_sub [0, 1, 2] rfl ?_
      exact wX12_sizeOf_b193 hq18 h
    · have h := it h c
      refine r_aload_n (pc := 176) dX12_sizeOf_176 rfl 0 rfl ?_
      obtain ⟨a50, ha50, h⟩ := ob h
      refine r_getS (pc := 177) dX12_sizeOf_177 fgX12_47 rfl g30 ha50 ?_
      refine r_iload (pc := 180) dX12_sizeOf_180 3 rfl ?_
      obtain ⟨g51, h⟩ := gd h
      obtain ⟨g52, h⟩ := gd h
      refine r_saload (pc := 182) dX12_sizeOf_182 g51 g52 ?_
      refine r_goto (pc := 183) (tgt := 193) dX12_sizeOf_183 rfl ?_
      refine r_sub [0, 1, 2] rfl ?_
      exact wX12_sizeOf_b193 hq18 h
  · have h := it h c
    refine r_aload_n (pc := 128) dX12_sizeOf_128 rfl 0 rfl ?_
    refine r_iconst (pc := 129) dX12_sizeOf_129 kc_iconst_2 ?_
    obtain ⟨I53, hc54, h⟩ := ob h
    refine r_callV0 (pc := 130) (av := [vI (2 : Int32)]) (S := []) dX12_sizeOf_130 (kX12_body hc54) g30 rfl mkX12_441 mwX12_body rfl ⟨Nat.le_of_ble_eq_true rfl, Nat.le_of_ble_eq_true rfl⟩ (Nat.le_of_ble_eq_true rfl) ⟨Nat.le_refl _, Nat.le_refl _⟩ (fun b => b) ?_
    refine r_aload_n (pc := 133) dX12_sizeOf_133 rfl 0 rfl ?_
    refine r_iconst (pc := 134) dX12_sizeOf_134 kc_iconst_1 ?_
    obtain ⟨I55, hc56, h⟩ := ob h
    refine r_callV0 (pc := 135) (av := [vI (1 : Int32)]) (S := []) dX12_sizeOf_135 (kX12_body hc56) g30 rfl mkX12_441 mwX12_body rfl ⟨Nat.le_of_ble_eq_true rfl, Nat.le_of_ble_eq_true rfl⟩ (Nat.le_of_ble_eq_true rfl) ⟨Nat.le_refl _, Nat.le_refl _⟩ (fun b => b) ?_
    refine r_aload_n (pc := 138) dX12_sizeOf_138 rfl 0 rfl ?_
    obtain ⟨a57, ha57, h⟩ := ob h
    refine r_getS (pc := 139) dX12_sizeOf_139 fgX12_68 rfl g30 ha57 ?_
    refine r_iload_n (pc := 142) dX12_sizeOf_142 rfl 1 rfl ?_
    refine r_iconst (pc := 143) dX12_sizeOf_143 kc_iconst_1 ?_
    refine r_isub (pc := 144) dX12_sizeOf_144 ?_
    obtain ⟨g58, h⟩ := gd h
    obtain ⟨g59, h⟩ := gd h
    refine r_iaload (pc := 145) dX12_sizeOf_145 g58 g59 ?_
    refine r_iconst (pc := 146) dX12_sizeOf_146 kc_iconst_2 ?_
    refine r_aload_n (pc := 147) dX12_sizeOf_147 rfl 0 rfl ?_
    obtain ⟨a60, ha60, h⟩ := ob h
    refine r_getS (pc := 148) dX12_sizeOf_148 fgX12_41 rfl g30 ha60 ?_
    refine r_iload (pc := 151) dX12_sizeOf_151 3 rfl ?_
    obtain ⟨g61, h⟩ := gd h
    obtain ⟨g62, h⟩ := gd h
    refine r_iaload (pc := 153) dX12_sizeOf_153 g61 g62 ?_
    refine r_imul (pc := 154) dX12_sizeOf_154 ?_
    refine r_iadd (pc := 155) dX12_sizeOf_155 ?_
    refine r_aload_n (pc := 156) dX12_sizeOf_156 rfl 0 rfl ?_
    obtain ⟨a63, ha63, h⟩ := ob h
    refine r_getS (pc := 157) dX12_sizeOf_157 fgX12_44 rfl g30 ha63 ?_
    refine r_iload (pc := 160) dX12_sizeOf_160 3 rfl ?_
    obtain ⟨g64, h⟩ := gd h
    obtain ⟨g65, h⟩ := gd h
    refine r_iaload (pc := 162) dX12_sizeOf_162 g64 g65 ?_
    refine r_iadd (pc := 163) dX12_sizeOf_163 ?_
    refine r_istore_n (pc := 164) (L' := [(3, vI (((I55 a57 (Int32.toNatClampNeg (x2 - (1 : Int32)))) + ((2 : Int32) * (I55 a60 (Int32.toNatClampNeg x4)))) + (I55 a63 (Int32.toNatClampNeg x4)))), (0, vR (some t)), (2, vI x2), (4, vI x4), (5, vI x5)]) dX12_sizeOf_164 rfl (by decide) rfl ?_
    refine r_iinc (pc := 165) (v := (x2 + (-1 : Int32))) (L' := [(2, vI (x2 + (-1 : Int32))), (3, vI (((I55 a57 (Int32.toNatClampNeg (x2 - (1 : Int32)))) + ((2 : Int32) * (I55 a60 (Int32.toNatClampNeg x4)))) + (I55 a63 (Int32.toNatClampNeg x4)))), (0, vR (some t)), (4, vI x4), (5, vI x5)]) dX12_sizeOf_165 2 rfl (kc_inc_m1 _) (by decide) rfl ?_
    refine r_goto (pc := 168) (tgt := 18) dX12_sizeOf_168 rfl ?_
    refine r_sub [2, 0, 1] rfl ?_
    exact hq18 _ _ _ h
def fX12_sizeOf_b83 (q18 : (Nat → Nat → Int32) → (Int32) → (Int32) → (Option ((Nat → Nat → Int32) × (Int32)))) (σ : Shp) (R : Nat → Nat → Option Nat) (t : Nat) (I : Nat → Nat → Int32) (x2 : Int32) (x3 : Int32) (x4 : Int32) (x5 : Int32) : Option ((Nat → Nat → Int32) × (Int32)) :=
  if kdx σ t = 13 then
  ((R t 28) : Option Nat).bind fun a23 =>
  if x5 = 0 then
    fX12_sizeOf_b109 q18 σ R t I x2 x3 x4 x5 (some a23) (x2 - (1 : Int32)) (0 : Int32)
  else
    if kdx σ a23 = 20 then
    if ¬ ((x2 - (1 : Int32)) < 0 ∨ lnx σ a23 ≤ Int32.toNatClampNeg (x2 - (1 : Int32))) then
    fX12_sizeOf_b109 q18 σ R t I x2 x3 x4 x5 (some a23) (x2 - (1 : Int32)) ((I a23 (Int32.toNatClampNeg (x2 - (1 : Int32)))) + x3)
    else none
    else none
  else none
theorem wX12_sizeOf_b83 {G : Gx} {l : Launch} {σ : Shp} {I : Nat → Nat → Int32} {J : Nat → Nat → Int64} {D : Nat → Nat → UInt64} {R : Nat → Nat → Option Nat} {t : Nat} {I9 : Nat → Nat → Int32} {r9 : Int32} {q18 : (Nat → Nat → Int32) → (Int32) → (Int32) → (Option ((Nat → Nat → Int32) × (Int32)))} {x2 : Int32} {x3 : Int32} {x4 : Int32} {x5 : Int32} (hq18 : ∀ (I : Nat → Nat → Int32) (x2 : Int32) (x3 : Int32), q18 I x2 x3 = some (I9, r9) → WX12_sizeOf G l σ (σ, I9, J, D, R) (some (vI r9)) (σ, I, J, D, R) 18 [(0, vR (some t)), (2, vI x2), (3, vI x3)] []) (h : fX12_sizeOf_b83 q18 σ R t I x2 x3 x4 x5 = some (I9, r9)) : WX12_sizeOf G l σ (σ, I9, J, D, R) (some (vI r9)) (σ, I, J, D, R) 83 [(0, vR (some t)), (2, vI x2), (3, vI x3), (4, vI x4), (5, vI x5)] [] := by
  unfold fX12_sizeOf_b83 at h
  refine r_aload_n (pc := 83) dX12_sizeOf_83 rfl 0 rfl ?_
  obtain ⟨g22, h⟩ := gd h
  obtain ⟨a23, ha23, h⟩ := ob h
  refine r_getS (pc := 84) dX12_sizeOf_84 fgX12_68 rfl g22 ha23 ?_
  refine r_iload_n (pc := 87) dX12_sizeOf_87 rfl 1 rfl ?_
  refine r_iconst (pc := 88) dX12_sizeOf_88 kc_iconst_1 ?_
  refine r_isub (pc := 89) dX12_sizeOf_89 ?_
  refine r_iload (pc := 90) dX12_sizeOf_90 4 rfl ?_
  refine r_ifne (pc := 92) (tgt := 99) dX12_sizeOf_92 rfl (fun c => ?_) (fun c => ?_)
  · have h := ie h c
    refine r_aload_n (pc := 99) dX12_sizeOf_99 rfl 0 rfl ?_
    refine r_getS (pc := 100) dX12_sizeOf_100 fgX12_68 rfl g22 ha23 ?_
    refine r_iload_n (pc := 103) dX12_sizeOf_103 rfl 1 rfl ?_
    refine r_iconst (pc := 104) dX12_sizeOf_104 kc_iconst_1 ?_
    refine r_isub (pc := 105) dX12_sizeOf_105 ?_
    obtain ⟨g24, h⟩ := gd h
    obtain ⟨g25, h⟩ := gd h
    refine r_iaload (pc := 106) dX12_sizeOf_106 g24 g25 ?_
    refine r_iload_n (pc := 107) dX12_sizeOf_107 rfl 2 rfl ?_
    refine r_iadd (pc := 108) dX12_sizeOf_108 ?_
    refine r_sub [0, 1, 2, 3, 4] rfl ?_
    exact wX12_sizeOf_b109 hq18 h
  · have h := it h c
    refine r_iconst (pc := 95) dX12_sizeOf_95 kc_iconst_0 ?_
    refine r_goto (pc := 96) (tgt := 109) dX12_sizeOf_96 rfl ?_
    refine r_sub [0, 1, 2, 3, 4] rfl ?_
    exact wX12_sizeOf_b109 hq18 h
def fX12_sizeOf_l18  (σ : Shp) (R : Nat → Nat → Option Nat) (t : Nat) : Nat → (Nat → Nat → Int32) → (Int32) → (Int32) → Option ((Nat → Nat → Int32) × (Int32))
  | 0, _, _, _ => none
  | n + 1, I, x2, x3 =>
    if x2 ≤ 0 then
      some (I, x3)
    else
      if kdx σ t = 13 then
      if (I t 30) = 0 then
        ((R t 26) : Option Nat).bind fun a11 =>
        if kdx σ a11 = 20 then
        if ¬ ((x2 - (1 : Int32)) < 0 ∨ lnx σ a11 ≤ Int32.toNatClampNeg (x2 - (1 : Int32))) then
        let v14 := (I a11 (Int32.toNatClampNeg (x2 - (1 : Int32))))
        ((R t 12) : Option Nat).bind fun a15 =>
        if kdx σ a15 = 22 then
        if ¬ (v14 < 0 ∨ lnx σ a15 ≤ Int32.toNatClampNeg v14) then
        if (I a15 (Int32.toNatClampNeg v14)) = (2 : Int32) then
          ((R t 27) : Option Nat).bind fun a18 =>
          if kdx σ a18 = 20 then
          if ¬ ((x2 - (1 : Int32)) < 0 ∨ lnx σ a18 ≤ Int32.toNatClampNeg (x2 - (1 : Int32))) then
          let v21 := (I a18 (Int32.toNatClampNeg (x2 - (1 : Int32))))
          if v21 = 0 then
            (fX12_body σ I R t (3 : Int32)).bind fun I68 =>
            fX12_sizeOf_b83 (fX12_sizeOf_l18 σ R t n) σ R t I68 x2 x3 v14 v21
          else
            fX12_sizeOf_b83 (fX12_sizeOf_l18 σ R t n) σ R t I x2 x3 v14 v21
          else none
          else none
        else
          (fX12_plainSize σ I R t v14).bind fun (I70, r71) =>
          let v73 := x2 + (-1 : Int32)
          fX12_sizeOf_l18 σ R t n I70 v73 r71
        else none
        else none
        else none
        else none
      else
        some (I, x3)
      else none
theorem wX12_sizeOf_l18 {G : Gx} {l : Launch} {σ : Shp} {J : Nat → Nat → Int64} {D : Nat → Nat → UInt64} {R : Nat → Nat → Option Nat} {t : Nat} {I9 : Nat → Nat → Int32} {r9 : Int32} : ∀ (n : Nat) (I : Nat → Nat → Int32) (x2 : Int32) (x3 : Int32), fX12_sizeOf_l18 σ R t n I x2 x3 = some (I9, r9) → WX12_sizeOf G l σ (σ, I9, J, D, R) (some (vI r9)) (σ, I, J, D, R) 18 [(0, vR (some t)), (2, vI x2), (3, vI x3)] [] := by
  intro n
  induction n with
  | zero =>
    intro I x2 x3 h
    have h : none = some _ := h
    cases h
  | succ n ih =>
    intro I x2 x3 h
    rw [fX12_sizeOf_l18] at h
    refine r_iload_n (pc := 18) dX12_sizeOf_18 rfl 1 rfl ?_
    refine r_if_le (pc := 19) (tgt := 229) dX12_sizeOf_19 rfl (fun c => ?_) (fun c => ?_)
    · have h := it h c
      refine r_iload_n (pc := 229) dX12_sizeOf_229 rfl 2 rfl ?_
      cases h
      exact r_iret dX12_sizeOf_230
    · have h := ie h c
      refine r_aload_n (pc := 22) dX12_sizeOf_22 rfl 0 rfl ?_
      obtain ⟨g10, h⟩ := gd h
      refine r_getI (pc := 23) dX12_sizeOf_23 fgX12_445 rfl g10 ?_
      refine r_ifne (pc := 26) (tgt := 229) dX12_sizeOf_26 rfl (fun c => ?_) (fun c => ?_)
      · have h := ie h c
        refine r_iload_n (pc := 229) dX12_sizeOf_229 rfl 2 rfl ?_
        cases h
        exact r_iret dX12_sizeOf_230
      · have h := it h c
        refine r_aload_n (pc := 29) dX12_sizeOf_29 rfl 0 rfl ?_
        obtain ⟨a11, ha11, h⟩ := ob h
        refine r_getS (pc := 30) dX12_sizeOf_30 fgX12_62 rfl g10 ha11 ?_
        refine r_iload_n (pc := 33) dX12_sizeOf_33 rfl 1 rfl ?_
        refine r_iconst (pc := 34) dX12_sizeOf_34 kc_iconst_1 ?_
        refine r_isub (pc := 35) dX12_sizeOf_35 ?_
        obtain ⟨g12, h⟩ := gd h
        obtain ⟨g13, h⟩ := gd h
        refine r_iaload (pc := 36) dX12_sizeOf_36 g12 g13 ?_
        refine r_istore (pc := 37) (L' := [(4, vI (I a11 (Int32.toNatClampNeg (x2 - (1 : Int32))))), (0, vR (some t)), (2, vI x2), (3, vI x3)]) dX12_sizeOf_37 (by decide) rfl ?_
        refine r_aload_n (pc := 39) dX12_sizeOf_39 rfl 1 rfl ?_
        obtain ⟨a15, ha15, h⟩ := ob h
        refine r_getS (pc := 40) dX12_sizeOf_40 fgX12_38 rfl g10 ha15 ?_
        refine r_iload (pc := 43) dX12_sizeOf_43 0 rfl ?_
        obtain ⟨g16, h⟩ := gd h
        obtain ⟨g17, h⟩ := gd h
        refine r_baload (pc := 45) dX12_sizeOf_45 g16 g17 ?_
        refine r_iconst (pc := 46) dX12_sizeOf_46 kc_iconst_2 ?_
        refine r_icmp_eq (pc := 47) (tgt := 63) dX12_sizeOf_47 rfl (fun c => ?_) (fun c => ?_)
        · have h := it h c
          refine r_aload_n (pc := 63) dX12_sizeOf_63 rfl 1 rfl ?_
          obtain ⟨a18, ha18, h⟩ := ob h
          refine r_getS (pc := 64) dX12_sizeOf_64 fgX12_65 rfl g10 ha18 ?_
          refine r_iload_n (pc := 67) dX12_sizeOf_67 rfl 2 rfl ?_
          refine r_iconst (pc := 68) dX12_sizeOf_68 kc_iconst_1 ?_
          refine r_isub (pc := 69) dX12_sizeOf_69 ?_
          obtain ⟨g19, h⟩ := gd h
          obtain ⟨g20, h⟩ := gd h
          refine r_iaload (pc := 70) dX12_sizeOf_70 g19 g20 ?_
          refine r_istore (pc := 71) (L' := [(5, vI (I a18 (Int32.toNatClampNeg (x2 - (1 : Int32))))), (4, vI (I a11 (Int32.toNatClampNeg (x2 - (1 : Int32))))), (0, vR (some t)), (2, vI x2), (3, vI x3)]) dX12_sizeOf_71 (by decide) rfl ?_
          refine r_iload (pc := 73) dX12_sizeOf_73 0 rfl ?_
          refine r_ifne (pc := 75) (tgt := 83) dX12_sizeOf_75 rfl (fun c => ?_) (fun c => ?_)
          · have h := ie h c
            refine r_sub [2, 3, 4, 1, 0] rfl ?_
            exact wX12_sizeOf_b83 ih h
          · have h := it h c
            refine r_aload_n (pc := 78) dX12_sizeOf_78 rfl 2 rfl ?_
            refine r_iconst (pc := 79) dX12_sizeOf_79 kc_iconst_3 ?_
            obtain ⟨I68, hc69, h⟩ := ob h
            refine r_callV0 (pc := 80) (av := [vI (3 : Int32)]) (S := []) dX12_sizeOf_80 (kX12_body hc69) g10 rfl mkX12_441 mwX12_body rfl ⟨Nat.le_of_ble_eq_true rfl, Nat.le_of_ble_eq_true rfl⟩ (Nat.le_of_ble_eq_true rfl) ⟨Nat.le_refl _, Nat.le_refl _⟩ (fun b => b) ?_
            refine r_sub [2, 3, 4, 1, 0] rfl ?_
            exact wX12_sizeOf_b83 ih h
        · have h := ie h c
          refine r_aload_n (pc := 50) dX12_sizeOf_50 rfl 1 rfl ?_
          refine r_iload (pc := 51) dX12_sizeOf_51 0 rfl ?_
          obtain ⟨⟨I70, r71⟩, hc72, h⟩ := ob h
          refine r_callV1 (pc := 53) (av := [vI (I a11 (Int32.toNatClampNeg (x2 - (1 : Int32))))]) (S := []) dX12_sizeOf_53 (kX12_plainSize hc72) g10 rfl mkX12_448 mwX12_plainSize rfl ⟨Nat.le_of_ble_eq_true rfl, Nat.le_of_ble_eq_true rfl⟩ (Nat.le_of_ble_eq_true rfl) ⟨Nat.le_refl _, Nat.le_refl _⟩ (fun b => b) ?_
          refine r_istore_n (pc := 56) (L' := [(3, vI r71), (4, vI (I a11 (Int32.toNatClampNeg (x2 - (1 : Int32))))), (0, vR (some t)), (2, vI x2)]) dX12_sizeOf_56 rfl (by decide) rfl ?_
          refine r_iinc (pc := 57) (v := (x2 + (-1 : Int32))) (L' := [(2, vI (x2 + (-1 : Int32))), (3, vI r71), (4, vI (I a11 (Int32.toNatClampNeg (x2 - (1 : Int32))))), (0, vR (some t))]) dX12_sizeOf_57 3 rfl (kc_inc_m1 _) (by decide) rfl ?_
          refine r_goto (pc := 60) (tgt := 18) dX12_sizeOf_60 rfl ?_
          refine r_sub [3, 0, 1] rfl ?_
          exact ih _ _ _ h
def fX12_sizeOf (σ : Shp) (I : Nat → Nat → Int32) (R : Nat → Nat → Option Nat) (t : Nat) (x1 : Int32) : Option ((Nat → Nat → Int32) × (Int32)) :=
  if kdx σ t = 13 then
  ((R t 26) : Option Nat).bind fun a2 =>
  if kdx σ a2 = 20 then
  if ¬ ((0 : Int32) < 0 ∨ lnx σ a2 ≤ Int32.toNatClampNeg (0 : Int32)) then
  let I5 := u2 I a2 (Int32.toNatClampNeg (0 : Int32)) x1
  ((R t 27) : Option Nat).bind fun a6 =>
  if kdx σ a6 = 20 then
  if ¬ ((0 : Int32) < 0 ∨ lnx σ a6 ≤ Int32.toNatClampNeg (0 : Int32)) then
  let I9 := u2 I5 a6 (Int32.toNatClampNeg (0 : Int32)) (0 : Int32)
  fX12_sizeOf_l18 σ R t FUx I9 (1 : Int32) (0 : Int32)
  else none
  else none
  else none
  else none
  else none
theorem kX12_sizeOf {G : Gx} {l : Launch} {σ : Shp} {I : Nat → Nat → Int32} {J : Nat → Nat → Int64} {D : Nat → Nat → UInt64} {R : Nat → Nat → Option Nat} {t : Nat} {x1 : Int32} {I9 : Nat → Nat → Int32} {r9 : Int32} (h : fX12_sizeOf σ I R t x1 = some (I9, r9)) : Con G l yX12_sizeOf cX12_sizeOf 7 (some .int) 2 42 [vR (some t), vI x1] (σ, I, J, D, R) (σ, I9, J, D, R) (some (vI r9)) := by
  unfold fX12_sizeOf at h
  refine Con.mk (by decide +kernel) rfl (Nat.le_of_ble_eq_true rfl) ?_
  show WX12_sizeOf G l σ (σ, I9, J, D, R) (some (vI r9)) (σ, I, J, D, R) 0 _ []
  refine r_iconst (pc := 0) dX12_sizeOf_0 kc_iconst_1 ?_
  refine r_istore_n (pc := 1) (L' := [(2, vI (1 : Int32)), (0, vR (some t)), (1, vI x1)]) dX12_sizeOf_1 rfl (by decide) rfl ?_
  refine r_aload_n (pc := 2) dX12_sizeOf_2 rfl 1 rfl ?_
  obtain ⟨g1, h⟩ := gd h
  obtain ⟨a2, ha2, h⟩ := ob h
  refine r_getS (pc := 3) dX12_sizeOf_3 fgX12_62 rfl g1 ha2 ?_
  refine r_iconst (pc := 6) dX12_sizeOf_6 kc_iconst_0 ?_
  refine r_iload_n (pc := 7) dX12_sizeOf_7 rfl 2 rfl ?_
  obtain ⟨g3, h⟩ := gd h
  obtain ⟨g4, h⟩ := gd h
  refine r_iastore (pc := 8) dX12_sizeOf_8 g3 g4 ?_
  refine r_aload_n (pc := 9) dX12_sizeOf_9 rfl 1 rfl ?_
  obtain ⟨a6, ha6, h⟩ := ob h
  refine r_getS (pc := 10) dX12_sizeOf_10 fgX12_65 rfl g1 ha6 ?_
  refine r_iconst (pc := 13) dX12_sizeOf_13 kc_iconst_0 ?_
  refine r_iconst (pc := 14) dX12_sizeOf_14 kc_iconst_0 ?_
  obtain ⟨g7, h⟩ := gd h
  obtain ⟨g8, h⟩ := gd h
  refine r_iastore (pc := 15) dX12_sizeOf_15 g7 g8 ?_
  refine r_iconst (pc := 16) dX12_sizeOf_16 kc_iconst_0 ?_
  refine r_istore_n (pc := 17) (L' := [(3, vI (0 : Int32)), (2, vI (1 : Int32)), (0, vR (some t)), (1, vI x1)]) dX12_sizeOf_17 rfl (by decide) rfl ?_
  refine r_sub [2, 1, 0] rfl ?_
  exact wX12_sizeOf_l18 _ _ _ _ h
abbrev WX12_thirstOf (G : Gx) (l : Launch) (σ0 : Shp) (X1 : Stt) (rv : Option SV) : Stt → Nat → List (Nat × SV) → List SV → Prop := Wm G l yX12_thirstOf cX12_thirstOf 4 (some .int) (fun _ => True) (rmx 3 68 σ0 X1.1) σ0 (Qmx G σ0 X1 rv)
def fX12_thirstOf_b36  (σ : Shp) (R : Nat → Nat → Option Nat) (t : Nat) (I : Nat → Nat → Int32) (x1 : Int32) (x2 : Int32) : Option ((Nat → Nat → Int32) × (Int32)) :=
  if kdx σ t = 13 then
  (fX12_body σ I R t (10 : Int32)).bind fun I7 =>
  (fX12_sizeOf σ I7 R t x1).bind fun (I9, r10) =>
  let v12 := ((3 : Int32) + r10)
  if (3 : Int32) ≤ x2 then
    some (I9, v12)
  else
    some (I9, ((2 : Int32) * v12))
  else none
theorem wX12_thirstOf_b36 {G : Gx} {l : Launch} {σ : Shp} {I : Nat → Nat → Int32} {J : Nat → Nat → Int64} {D : Nat → Nat → UInt64} {R : Nat → Nat → Option Nat} {t : Nat} {I9 : Nat → Nat → Int32} {r9 : Int32} {x1 : Int32} {x2 : Int32} (h : fX12_thirstOf_b36 σ R t I x1 x2 = some (I9, r9)) : WX12_thirstOf G l σ (σ, I9, J, D, R) (some (vI r9)) (σ, I, J, D, R) 36 [(0, vR (some t)), (1, vI x1), (2, vI x2)] [] := by
  unfold fX12_thirstOf_b36 at h
  refine r_aload_n (pc := 36) dX12_thirstOf_36 rfl 0 rfl ?_
  refine r_bipush (pc := 37) dX12_thirstOf_37 kc_bipush_10 ?_
  obtain ⟨g6, h⟩ := gd h
  obtain ⟨I7, hc8, h⟩ := ob h
  refine r_callV0 (pc := 39) (av := [vI (10 : Int32)]) (S := []) dX12_thirstOf_39 (kX12_body hc8) g6 rfl mkX12_441 mwX12_body rfl ⟨Nat.le_of_ble_eq_true rfl, Nat.le_of_ble_eq_true rfl⟩ (Nat.le_of_ble_eq_true rfl) ⟨Nat.le_refl _, Nat.le_refl _⟩ (fun b => b) ?_
  refine r_iconst (pc := 42) dX12_thirstOf_42 kc_iconst_3 ?_
  refine r_aload_n (pc := 43) dX12_thirstOf_43 rfl 0 rfl ?_
  refine r_iload_n (pc := 44) dX12_thirstOf_44 rfl 1 rfl ?_
  obtain ⟨⟨I9, r10⟩, hc11, h⟩ := ob h
  refine r_callV1 (pc := 45) (av := [vI x1]) (S := [vI (3 : Int32)]) dX12_thirstOf_45 (kX12_sizeOf hc11) g6 rfl mkX12_451 mwX12_sizeOf rfl ⟨Nat.le_of_ble_eq_true rfl, Nat.le_of_ble_eq_true rfl⟩ (Nat.le_of_ble_eq_true rfl) ⟨Nat.le_refl _, Nat.le_refl _⟩ (fun b => b) ?_
  refine r_iadd (pc := 48) dX12_thirstOf_48 ?_
  refine r_istore_n (pc := 49) (L' := [(3, vI ((3 : Int32) + r10)), (0, vR (some t)), (1, vI x1), (2, vI x2)]) dX12_thirstOf_49 rfl (by decide) rfl ?_
  refine r_iload_n (pc := 50) dX12_thirstOf_50 rfl 3 rfl ?_
  refine r_iconst (pc := 51) dX12_thirstOf_51 kc_iconst_3 ?_
  refine r_icmp_ge (pc := 52) (tgt := 61) dX12_thirstOf_52 rfl (fun c => ?_) (fun c => ?_)
  · have h := it h c
    refine r_iload_n (pc := 61) dX12_thirstOf_61 rfl 0 rfl ?_
    cases h
    exact r_iret dX12_thirstOf_62
  · have h := ie h c
    refine r_iconst (pc := 55) dX12_thirstOf_55 kc_iconst_2 ?_
    refine r_iload_n (pc := 56) dX12_thirstOf_56 rfl 0 rfl ?_
    refine r_imul (pc := 57) dX12_thirstOf_57 ?_
    refine r_goto (pc := 58) (tgt := 62) dX12_thirstOf_58 rfl ?_
    cases h
    exact r_iret dX12_thirstOf_62
def fX12_thirstOf (σ : Shp) (I : Nat → Nat → Int32) (R : Nat → Nat → Option Nat) (t : Nat) (x1 : Int32) : Option ((Nat → Nat → Int32) × (Int32)) :=
  if kdx σ t = 13 then
  ((R t 12) : Option Nat).bind fun a2 =>
  if kdx σ a2 = 22 then
  if ¬ (x1 < 0 ∨ lnx σ a2 ≤ Int32.toNatClampNeg x1) then
  let v5 := (I a2 (Int32.toNatClampNeg x1))
  if v5 = (5 : Int32) then
    (fX12_body σ I R t (12 : Int32)).bind fun I15 =>
    ((R t 14) : Option Nat).bind fun a17 =>
    if kdx σ a17 = 20 then
    if ¬ (x1 < 0 ∨ lnx σ a17 ≤ Int32.toNatClampNeg x1) then
    some (I15, (I15 a17 (Int32.toNatClampNeg x1)))
    else none
    else none
  else
    if (3 : Int32) ≤ v5 then
      fX12_thirstOf_b36 σ R t I x1 v5
    else
      (fX12_body σ I R t (11 : Int32)).bind fun I13 =>
      fX12_thirstOf_b36 σ R t I13 x1 v5
  else none
  else none
  else none
theorem kX12_thirstOf {G : Gx} {l : Launch} {σ : Shp} {I : Nat → Nat → Int32} {J : Nat → Nat → Int64} {D : Nat → Nat → UInt64} {R : Nat → Nat → Option Nat} {t : Nat} {x1 : Int32} {I9 : Nat → Nat → Int32} {r9 : Int32} (h : fX12_thirstOf σ I R t x1 = some (I9, r9)) : Con G l yX12_thirstOf cX12_thirstOf 4 (some .int) 3 68 [vR (some t), vI x1] (σ, I, J, D, R) (σ, I9, J, D, R) (some (vI r9)) := by
  unfold fX12_thirstOf at h
  refine Con.mk (by decide +kernel) rfl (Nat.le_of_ble_eq_true rfl) ?_
  show WX12_thirstOf G l σ (σ, I9, J, D, R) (some (vI r9)) (σ, I, J, D, R) 0 _ []
  refine r_aload_n (pc := 0) dX12_thirstOf_0 rfl 0 rfl ?_
  obtain ⟨g1, h⟩ := gd h
  obtain ⟨a2, ha2, h⟩ := ob h
  refine r_getS (pc := 1) dX12_thirstOf_1 fgX12_38 rfl g1 ha2 ?_
  refine r_iload_n (pc := 4) dX12_thirstOf_4 rfl 1 rfl ?_
  obtain ⟨g3, h⟩ := gd h
  obtain ⟨g4, h⟩ := gd h
  refine r_baload (pc := 5) dX12_thirstOf_5 g3 g4 ?_
  refine r_istore_n (pc := 6) (L' := [(2, vI (I a2 (Int32.toNatClampNeg x1))), (0, vR (some t)), (1, vI x1)]) dX12_thirstOf_6 rfl (by decide) rfl ?_
  refine r_iload_n (pc := 7) dX12_thirstOf_7 rfl 0 rfl ?_
  refine r_iconst (pc := 8) dX12_thirstOf_8 kc_iconst_5 ?_
  refine r_icmp_ne (pc := 9) (tgt := 25) dX12_thirstOf_9 rfl (fun c => ?_) (fun c => ?_)
  · have h := ie h c
    refine r_iload_n (pc := 25) dX12_thirstOf_25 rfl 0 rfl ?_
    refine r_iconst (pc := 26) dX12_thirstOf_26 kc_iconst_3 ?_
    refine r_icmp_ge (pc := 27) (tgt := 36) dX12_thirstOf_27 rfl (fun c => ?_) (fun c => ?_)
    · have h := it h c
      refine r_sub [1, 2, 0] rfl ?_
      exact wX12_thirstOf_b36 h
    · have h := ie h c
      refine r_aload_n (pc := 30) dX12_thirstOf_30 rfl 1 rfl ?_
      refine r_bipush (pc := 31) dX12_thirstOf_31 kc_bipush_11 ?_
      obtain ⟨I13, hc14, h⟩ := ob h
      refine r_callV0 (pc := 33) (av := [vI (11 : Int32)]) (S := []) dX12_thirstOf_33 (kX12_body hc14) g1 rfl mkX12_441 mwX12_body rfl ⟨Nat.le_of_ble_eq_true rfl, Nat.le_of_ble_eq_true rfl⟩ (Nat.le_of_ble_eq_true rfl) ⟨Nat.le_refl _, Nat.le_refl _⟩ (fun b => b) ?_
      refine r_sub [1, 2, 0] rfl ?_
      exact wX12_thirstOf_b36 h
  · have h := it h c
    refine r_aload_n (pc := 12) dX12_thirstOf_12 rfl 1 rfl ?_
    refine r_bipush (pc := 13) dX12_thirstOf_13 kc_bipush_12 ?_
    obtain ⟨I15, hc16, h⟩ := ob h
    refine r_callV0 (pc := 15) (av := [vI (12 : Int32)]) (S := []) dX12_thirstOf_15 (kX12_body hc16) g1 rfl mkX12_441 mwX12_body rfl ⟨Nat.le_of_ble_eq_true rfl, Nat.le_of_ble_eq_true rfl⟩ (Nat.le_of_ble_eq_true rfl) ⟨Nat.le_refl _, Nat.le_refl _⟩ (fun b => b) ?_
    refine r_aload_n (pc := 18) dX12_thirstOf_18 rfl 1 rfl ?_
    obtain ⟨a17, ha17, h⟩ := ob h
    refine r_getS (pc := 19) dX12_thirstOf_19 fgX12_44 rfl g1 ha17 ?_
    refine r_iload_n (pc := 22) dX12_thirstOf_22 rfl 2 rfl ?_
    obtain ⟨g18, h⟩ := gd h
    obtain ⟨g19, h⟩ := gd h
    refine r_iaload (pc := 23) dX12_thirstOf_23 g18 g19 ?_
    cases h
    exact r_iret dX12_thirstOf_24
abbrev WX12_costOf (G : Gx) (l : Launch) (σ0 : Shp) (X1 : Stt) (rv : Option SV) : Stt → Nat → List (Nat × SV) → List SV → Prop := Wm G l yX12_costOf cX12_costOf 3 (some .int) (fun _ => True) (rmx 4 91 σ0 X1.1) σ0 (Qmx G σ0 X1 rv)
def fX12_costOf_b16  (σ : Shp) (R : Nat → Nat → Option Nat) (t : Nat) (I : Nat → Nat → Int32) (x1 : Int32) : Option ((Nat → Nat → Int32) × (Int32)) :=
  if kdx σ t = 13 then
  (fX12_body σ I R t (20 : Int32)).bind fun I6 =>
  ((R t 13) : Option Nat).bind fun a8 =>
  if kdx σ a8 = 20 then
  if ¬ (x1 < 0 ∨ lnx σ a8 ≤ Int32.toNatClampNeg x1) then
  if (I6 a8 (Int32.toNatClampNeg x1)) = 0 then
    let I19 := u2 I6 t 30 (6 : Int32)
    some (I19, (0 : Int32))
  else
    if ¬ (I6 a8 (Int32.toNatClampNeg x1)) = 0 then
    let v12 := ((5000 : Int32) / (I6 a8 (Int32.toNatClampNeg x1)))
    ((R t 12) : Option Nat).bind fun a13 =>
    if kdx σ a13 = 22 then
    if ¬ (x1 < 0 ∨ lnx σ a13 ≤ Int32.toNatClampNeg x1) then
    if (I6 a13 (Int32.toNatClampNeg x1)) = (3 : Int32) then
      (fX12_thirstOf σ I6 R t x1).bind fun (I16, r17) =>
      some (I16, (v12 + r17))
    else
      some (I6, v12)
    else none
    else none
    else none
  else none
  else none
  else none
theorem wX12_costOf_b16 {G : Gx} {l : Launch} {σ : Shp} {I : Nat → Nat → Int32} {J : Nat → Nat → Int64} {D : Nat → Nat → UInt64} {R : Nat → Nat → Option Nat} {t : Nat} {I9 : Nat → Nat → Int32} {r9 : Int32} {x1 : Int32} (h : fX12_costOf_b16 σ R t I x1 = some (I9, r9)) : WX12_costOf G l σ (σ, I9, J, D, R) (some (vI r9)) (σ, I, J, D, R) 16 [(0, vR (some t)), (1, vI x1)] [] := by
  unfold fX12_costOf_b16 at h
  refine r_aload_n (pc := 16) dX12_costOf_16 rfl 0 rfl ?_
  refine r_bipush (pc := 17) dX12_costOf_17 kc_bipush_20 ?_
  obtain ⟨g5, h⟩ := gd h
  obtain ⟨I6, hc7, h⟩ := ob h
  refine r_callV0 (pc := 19) (av := [vI (20 : Int32)]) (S := []) dX12_costOf_19 (kX12_body hc7) g5 rfl mkX12_441 mwX12_body rfl ⟨Nat.le_of_ble_eq_true rfl, Nat.le_of_ble_eq_true rfl⟩ (Nat.le_of_ble_eq_true rfl) ⟨Nat.le_refl _, Nat.le_refl _⟩ (fun b => b) ?_
  refine r_aload_n (pc := 22) dX12_costOf_22 rfl 0 rfl ?_
  obtain ⟨a8, ha8, h⟩ := ob h
  refine r_getS (pc := 23) dX12_costOf_23 fgX12_41 rfl g5 ha8 ?_
  refine r_iload_n (pc := 26) dX12_costOf_26 rfl 1 rfl ?_
  obtain ⟨g9, h⟩ := gd h
  obtain ⟨g10, h⟩ := gd h
  refine r_iaload (pc := 27) dX12_costOf_27 g9 g10 ?_
  refine r_ifne (pc := 28) (tgt := 39) dX12_costOf_28 rfl (fun c => ?_) (fun c => ?_)
  · have h := ie h c
    refine r_sipush (pc := 39) dX12_costOf_39 kc_sipush_5000 ?_
    refine r_aload_n (pc := 42) dX12_costOf_42 rfl 0 rfl ?_
    refine r_getS (pc := 43) dX12_costOf_43 fgX12_41 rfl g5 ha8 ?_
    refine r_iload_n (pc := 46) dX12_costOf_46 rfl 1 rfl ?_
    refine r_iaload (pc := 47) dX12_costOf_47 g9 g10 ?_
    obtain ⟨g11, h⟩ := gd h
    refine r_idiv (pc := 48) dX12_costOf_48 g11 ?_
    refine r_istore_n (pc := 49) (L' := [(2, vI ((5000 : Int32) / (I6 a8 (Int32.toNatClampNeg x1)))), (0, vR (some t)), (1, vI x1)]) dX12_costOf_49 rfl (by decide) rfl ?_
    refine r_aload_n (pc := 50) dX12_costOf_50 rfl 1 rfl ?_
    obtain ⟨a13, ha13, h⟩ := ob h
    refine r_getS (pc := 51) dX12_costOf_51 fgX12_38 rfl g5 ha13 ?_
    refine r_iload_n (pc := 54) dX12_costOf_54 rfl 2 rfl ?_
    obtain ⟨g14, h⟩ := gd h
    obtain ⟨g15, h⟩ := gd h
    refine r_baload (pc := 55) dX12_costOf_55 g14 g15 ?_
    refine r_iconst (pc := 56) dX12_costOf_56 kc_iconst_3 ?_
    refine r_icmp_ne (pc := 57) (tgt := 70) dX12_costOf_57 rfl (fun c => ?_) (fun c => ?_)
    · have h := ie h c
      refine r_iload_n (pc := 70) dX12_costOf_70 rfl 0 rfl ?_
      cases h
      exact r_iret dX12_costOf_71
    · have h := it h c
      refine r_iload_n (pc := 60) dX12_costOf_60 rfl 0 rfl ?_
      refine r_aload_n (pc := 61) dX12_costOf_61 rfl 1 rfl ?_
      refine r_iload_n (pc := 62) dX12_costOf_62 rfl 2 rfl ?_
      obtain ⟨⟨I16, r17⟩, hc18, h⟩ := ob h
      refine r_callV1 (pc := 63) (av := [vI x1]) (S := [vI ((5000 : Int32) / (I6 a8 (Int32.toNatClampNeg x1)))]) dX12_costOf_63 (kX12_thirstOf hc18) g5 rfl mkX12_454 mwX12_thirstOf rfl ⟨Nat.le_of_ble_eq_true rfl, Nat.le_of_ble_eq_true rfl⟩ (Nat.le_of_ble_eq_true rfl) ⟨Nat.le_refl _, Nat.le_refl _⟩ (fun b => b) ?_
      refine r_iadd (pc := 66) dX12_costOf_66 ?_
      refine r_goto (pc := 67) (tgt := 71) dX12_costOf_67 rfl ?_
      cases h
      exact r_iret dX12_costOf_71
  · have h := it h c
    refine r_aload_n (pc := 31) dX12_costOf_31 rfl 0 rfl ?_
    refine r_bipush (pc := 32) dX12_costOf_32 kc_bipush_6 ?_
    refine r_putI (pc := 34) dX12_costOf_34 fwX12_445 rfl g5 ?_
    refine r_iconst (pc := 37) dX12_costOf_37 kc_iconst_0 ?_
    cases h
    exact r_iret dX12_costOf_38
def fX12_costOf (σ : Shp) (I : Nat → Nat → Int32) (R : Nat → Nat → Option Nat) (t : Nat) (x1 : Int32) : Option ((Nat → Nat → Int32) × (Int32)) :=
  if kdx σ t = 13 then
  ((R t 12) : Option Nat).bind fun a2 =>
  if kdx σ a2 = 22 then
  if ¬ (x1 < 0 ∨ lnx σ a2 ≤ Int32.toNatClampNeg x1) then
  if (I a2 (Int32.toNatClampNeg x1)) = (3 : Int32) then
    (fX12_body σ I R t (21 : Int32)).bind fun I20 =>
    fX12_costOf_b16 σ R t I20 x1
  else
    fX12_costOf_b16 σ R t I x1
  else none
  else none
  else none
theorem kX12_costOf {G : Gx} {l : Launch} {σ : Shp} {I : Nat → Nat → Int32} {J : Nat → Nat → Int64} {D : Nat → Nat → UInt64} {R : Nat → Nat → Option Nat} {t : Nat} {x1 : Int32} {I9 : Nat → Nat → Int32} {r9 : Int32} (h : fX12_costOf σ I R t x1 = some (I9, r9)) : Con G l yX12_costOf cX12_costOf 3 (some .int) 4 91 [vR (some t), vI x1] (σ, I, J, D, R) (σ, I9, J, D, R) (some (vI r9)) := by
  unfold fX12_costOf at h
  refine Con.mk (by decide +kernel) rfl (Nat.le_of_ble_eq_true rfl) ?_
  show WX12_costOf G l σ (σ, I9, J, D, R) (some (vI r9)) (σ, I, J, D, R) 0 _ []
  refine r_aload_n (pc := 0) dX12_costOf_0 rfl 0 rfl ?_
  obtain ⟨g1, h⟩ := gd h
  obtain ⟨a2, ha2, h⟩ := ob h
  refine r_getS (pc := 1) dX12_costOf_1 fgX12_38 rfl g1 ha2 ?_
  refine r_iload_n (pc := 4) dX12_costOf_4 rfl 1 rfl ?_
  obtain ⟨g3, h⟩ := gd h
  obtain ⟨g4, h⟩ := gd h
  refine r_baload (pc := 5) dX12_costOf_5 g3 g4 ?_
  refine r_iconst (pc := 6) dX12_costOf_6 kc_iconst_3 ?_
  refine r_icmp_ne (pc := 7) (tgt := 16) dX12_costOf_7 rfl (fun c => ?_) (fun c => ?_)
  · have h := ie h c
    refine r_sub [0, 1] rfl ?_
    exact wX12_costOf_b16 h
  · have h := it h c
    refine r_aload_n (pc := 10) dX12_costOf_10 rfl 0 rfl ?_
    refine r_bipush (pc := 11) dX12_costOf_11 kc_bipush_21 ?_
    obtain ⟨I20, hc21, h⟩ := ob h
    refine r_callV0 (pc := 13) (av := [vI (21 : Int32)]) (S := []) dX12_costOf_13 (kX12_body hc21) g1 rfl mkX12_441 mwX12_body rfl ⟨Nat.le_of_ble_eq_true rfl, Nat.le_of_ble_eq_true rfl⟩ (Nat.le_of_ble_eq_true rfl) ⟨Nat.le_refl _, Nat.le_refl _⟩ (fun b => b) ?_
    refine r_sub [0, 1] rfl ?_
    exact wX12_costOf_b16 h
abbrev WX12_askOf (G : Gx) (l : Launch) (σ0 : Shp) (X1 : Stt) (rv : Option SV) : Stt → Nat → List (Nat × SV) → List SV → Prop := Wm G l yX12_askOf cX12_askOf 4 (some .int) (fun _ => True) (rmx 5 113 σ0 X1.1) σ0 (Qmx G σ0 X1 rv)
def fX12_askOf_b153  (σ : Shp) (R : Nat → Nat → Option Nat) (t : Nat) (I : Nat → Nat → Int32) (x1 : Int32) (x3 : Int32) (s0 : Option Nat) (s1 : Int32) : Option ((Nat → Nat → Int32) × (Int32)) :=
  (s0 : Option Nat).bind fun a33 =>
  if kdx σ a33 = 13 then
  (fX12_body σ I R a33 s1).bind fun I35 =>
  if x3 = (2 : Int32) then
    if kdx σ t = 13 then
    ((R t 14) : Option Nat).bind fun a40 =>
    if kdx σ a40 = 20 then
    if ¬ (x1 < 0 ∨ lnx σ a40 ≤ Int32.toNatClampNeg x1) then
    let I43 := u2 I35 t 29 ((9 : Int32) + (I35 a40 (Int32.toNatClampNeg x1)))
    some (I43, (I43 t 30))
    else none
    else none
    else none
  else
    if kdx σ t = 13 then
    let I38 := u2 I35 t 29 (7 : Int32)
    some (I38, (I38 t 30))
    else none
  else none
theorem wX12_askOf_b153 {G : Gx} {l : Launch} {σ : Shp} {I : Nat → Nat → Int32} {J : Nat → Nat → Int64} {D : Nat → Nat → UInt64} {R : Nat → Nat → Option Nat} {t : Nat} {I9 : Nat → Nat → Int32} {r9 : Int32} {x1 : Int32} {x3 : Int32} {s0 : Option Nat} {s1 : Int32} (h : fX12_askOf_b153 σ R t I x1 x3 s0 s1 = some (I9, r9)) : WX12_askOf G l σ (σ, I9, J, D, R) (some (vI r9)) (σ, I, J, D, R) 153 [(0, vR (some t)), (1, vI x1), (3, vI x3)] [vI s1, vR s0] := by
  unfold fX12_askOf_b153 at h
  obtain ⟨a33, ha33, h⟩ := ob h
  refine r_ref1 ha33 ?_
  obtain ⟨g34, h⟩ := gd h
  obtain ⟨I35, hc36, h⟩ := ob h
  refine r_callV0 (pc := 153) (av := [vI s1]) (S := []) dX12_askOf_153 (kX12_body hc36) g34 rfl mkX12_441 mwX12_body rfl ⟨Nat.le_of_ble_eq_true rfl, Nat.le_of_ble_eq_true rfl⟩ (Nat.le_of_ble_eq_true rfl) ⟨Nat.le_refl _, Nat.le_refl _⟩ (fun b => b) ?_
  refine r_aload_n (pc := 156) dX12_askOf_156 rfl 0 rfl ?_
  refine r_iload_n (pc := 157) dX12_askOf_157 rfl 2 rfl ?_
  refine r_iconst (pc := 158) dX12_askOf_158 kc_iconst_2 ?_
  refine r_icmp_ne (pc := 159) (tgt := 174) dX12_askOf_159 rfl (fun c => ?_) (fun c => ?_)
  · have h := ie h c
    refine r_bipush (pc := 174) dX12_askOf_174 kc_bipush_7 ?_
    obtain ⟨g37, h⟩ := gd h
    refine r_putI (pc := 176) dX12_askOf_176 fwX12_457 rfl g37 ?_
    refine r_goto (pc := 179) (tgt := 232) dX12_askOf_179 rfl ?_
    refine r_aload_n (pc := 232) dX12_askOf_232 rfl 0 rfl ?_
    refine r_getI (pc := 233) dX12_askOf_233 fgX12_445 rfl g37 ?_
    cases h
    exact r_iret dX12_askOf_236
  · have h := it h c
    refine r_bipush (pc := 162) dX12_askOf_162 kc_bipush_9 ?_
    refine r_aload_n (pc := 164) dX12_askOf_164 rfl 0 rfl ?_
    obtain ⟨g39, h⟩ := gd h
    obtain ⟨a40, ha40, h⟩ := ob h
    refine r_getS (pc := 165) dX12_askOf_165 fgX12_44 rfl g39 ha40 ?_
    refine r_iload_n (pc := 168) dX12_askOf_168 rfl 1 rfl ?_
    obtain ⟨g41, h⟩ := gd h
    obtain ⟨g42, h⟩ := gd h
    refine r_iaload (pc := 169) dX12_askOf_169 g41 g42 ?_
    refine r_iadd (pc := 170) dX12_askOf_170 ?_
    refine r_goto (pc := 171) (tgt := 176) dX12_askOf_171 rfl ?_
    refine r_putI (pc := 176) dX12_askOf_176 fwX12_457 rfl g39 ?_
    refine r_goto (pc := 179) (tgt := 232) dX12_askOf_179 rfl ?_
    refine r_aload_n (pc := 232) dX12_askOf_232 rfl 0 rfl ?_
    refine r_getI (pc := 233) dX12_askOf_233 fgX12_445 rfl g39 ?_
    cases h
    exact r_iret dX12_askOf_236
def fX12_askOf_b61  (σ : Shp) (R : Nat → Nat → Option Nat) (t : Nat) (I : Nat → Nat → Int32) (x1 : Int32) (x2 : Int32) (x3 : Int32) : Option ((Nat → Nat → Int32) × (Int32)) :=
  if x2 = (0 : Int32) then
    if kdx σ t = 13 then
    (fX12_sizeOf σ I R t x1).bind fun (I55, r56) =>
    let I58 := u2 I55 t 29 r56
    some (I58, (I58 t 30))
    else none
  else
  if x2 = (1 : Int32) then
    if kdx σ t = 13 then
    (fX12_thirstOf σ I R t x1).bind fun (I50, r51) =>
    let I53 := u2 I50 t 29 r51
    some (I53, (I53 t 30))
    else none
  else
  if x2 = (2 : Int32) then
    if kdx σ t = 13 then
    (fX12_costOf σ I R t x1).bind fun (I45, r46) =>
    let I48 := u2 I45 t 29 r46
    some (I48, (I48 t 30))
    else none
  else
  if x2 = (3 : Int32) then
    if x3 = (2 : Int32) then
      fX12_askOf_b153 σ R t I x1 x3 (some t) (31 : Int32)
    else
      fX12_askOf_b153 σ R t I x1 x3 (some t) (30 : Int32)
  else
  if x2 = (4 : Int32) then
    if x3 = (2 : Int32) then
      if kdx σ t = 13 then
      let I32 := u2 I t 29 (9 : Int32)
      some (I32, (I32 t 30))
      else none
    else
      if kdx σ t = 13 then
      let I30 := u2 I t 29 (7 : Int32)
      some (I30, (I30 t 30))
      else none
  else
  if x2 = (5 : Int32) then
    if kdx σ t = 13 then
    ((R t 11) : Option Nat).bind fun a25 =>
    if kdx σ a25 = 20 then
    if ¬ (x1 < 0 ∨ lnx σ a25 ≤ Int32.toNatClampNeg x1) then
    let I28 := u2 I t 29 (I a25 (Int32.toNatClampNeg x1))
    some (I28, (I28 t 30))
    else none
    else none
    else none
  else
  if x2 = (6 : Int32) then
    if kdx σ t = 13 then
    let I23 := u2 I t 29 x3
    some (I23, (I23 t 30))
    else none
  else
  if kdx σ t = 13 then
  ((R t 17) : Option Nat).bind fun a18 =>
  if kdx σ a18 = 22 then
  if ¬ (x1 < 0 ∨ lnx σ a18 ≤ Int32.toNatClampNeg x1) then
  let I21 := u2 I t 29 (I a18 (Int32.toNatClampNeg x1))
  some (I21, (I21 t 30))
  else none
  else none
  else none
theorem wX12_askOf_b61 {G : Gx} {l : Launch} {σ : Shp} {I : Nat → Nat → Int32} {J : Nat → Nat → Int64} {D : Nat → Nat → UInt64} {R : Nat → Nat → Option Nat} {t : Nat} {I9 : Nat → Nat → Int32} {r9 : Int32} {x1 : Int32} {x2 : Int32} {x3 : Int32} (h : fX12_askOf_b61 σ R t I x1 x2 x3 = some (I9, r9)) : WX12_askOf G l σ (σ, I9, J, D, R) (some (vI r9)) (σ, I, J, D, R) 61 [(0, vR (some t)), (1, vI x1), (2, vI x2), (3, vI x3)] [] := by
  unfold fX12_askOf_b61 at h
  refine r_iload_n (pc := 61) dX12_askOf_61 rfl 2 rfl ?_
  rcases itc h with ⟨c10, h⟩ | ⟨c10, h⟩
  · refine r_tsIn (x := x2) (pc := 62) (tgt := 104) dX12_askOf_62 (by rw [c10]; decide) (by rw [c10]; decide) (by rw [c10]; rfl) rfl ?_
    refine r_aload_n (pc := 104) dX12_askOf_104 rfl 0 rfl ?_
    refine r_aload_n (pc := 105) dX12_askOf_105 rfl 0 rfl ?_
    refine r_iload_n (pc := 106) dX12_askOf_106 rfl 1 rfl ?_
    obtain ⟨g54, h⟩ := gd h
    obtain ⟨⟨I55, r56⟩, hc57, h⟩ := ob h
    refine r_callV1 (pc := 107) (av := [vI x1]) (S := [vR (some t)]) dX12_askOf_107 (kX12_sizeOf hc57) g54 rfl mkX12_451 mwX12_sizeOf rfl ⟨Nat.le_of_ble_eq_true rfl, Nat.le_of_ble_eq_true rfl⟩ (Nat.le_of_ble_eq_true rfl) ⟨Nat.le_refl _, Nat.le_refl _⟩ (fun b => b) ?_
    refine r_putI (pc := 110) dX12_askOf_110 fwX12_457 rfl g54 ?_
    refine r_goto (pc := 113) (tgt := 232) dX12_askOf_113 rfl ?_
    refine r_aload_n (pc := 232) dX12_askOf_232 rfl 0 rfl ?_
    refine r_getI (pc := 233) dX12_askOf_233 fgX12_445 rfl g54 ?_
    cases h
    exact r_iret dX12_askOf_236
  · rcases itc h with ⟨c11, h⟩ | ⟨c11, h⟩
    · refine r_tsIn (x := x2) (pc := 62) (tgt := 116) dX12_askOf_62 (by rw [c11]; decide) (by rw [c11]; decide) (by rw [c11]; rfl) rfl ?_
      refine r_aload_n (pc := 116) dX12_askOf_116 rfl 0 rfl ?_
      refine r_aload_n (pc := 117) dX12_askOf_117 rfl 0 rfl ?_
      refine r_iload_n (pc := 118) dX12_askOf_118 rfl 1 rfl ?_
      obtain ⟨g49, h⟩ := gd h
      obtain ⟨⟨I50, r51⟩, hc52, h⟩ := ob h
      refine r_callV1 (pc := 119) (av := [vI x1]) (S := [vR (some t)]) dX12_askOf_119 (kX12_thirstOf hc52) g49 rfl mkX12_454 mwX12_thirstOf rfl ⟨Nat.le_of_ble_eq_true rfl, Nat.le_of_ble_eq_true rfl⟩ (Nat.le_of_ble_eq_true rfl) ⟨Nat.le_refl _, Nat.le_refl _⟩ (fun b => b) ?_
      refine r_putI (pc := 122) dX12_askOf_122 fwX12_457 rfl g49 ?_
      refine r_goto (pc := 125) (tgt := 232) dX12_askOf_125 rfl ?_
      refine r_aload_n (pc := 232) dX12_askOf_232 rfl 0 rfl ?_
      refine r_getI (pc := 233) dX12_askOf_233 fgX12_445 rfl g49 ?_
      cases h
      exact r_iret dX12_askOf_236
    · rcases itc h with ⟨c12, h⟩ | ⟨c12, h⟩
      · refine r_tsIn (x := x2) (pc := 62) (tgt := 128) dX12_askOf_62 (by rw [c12]; decide) (by rw [c12]; decide) (by rw [c12]; rfl) rfl ?_
        refine r_aload_n (pc := 128) dX12_askOf_128 rfl 0 rfl ?_
        refine r_aload_n (pc := 129) dX12_askOf_129 rfl 0 rfl ?_
        refine r_iload_n (pc := 130) dX12_askOf_130 rfl 1 rfl ?_
        obtain ⟨g44, h⟩ := gd h
        obtain ⟨⟨I45, r46⟩, hc47, h⟩ := ob h
        refine r_callV1 (pc := 131) (av := [vI x1]) (S := [vR (some t)]) dX12_askOf_131 (kX12_costOf hc47) g44 rfl mkX12_460 mwX12_costOf rfl ⟨Nat.le_of_ble_eq_true rfl, Nat.le_of_ble_eq_true rfl⟩ (Nat.le_of_ble_eq_true rfl) ⟨Nat.le_refl _, Nat.le_refl _⟩ (fun b => b) ?_
        refine r_putI (pc := 134) dX12_askOf_134 fwX12_457 rfl g44 ?_
        refine r_goto (pc := 137) (tgt := 232) dX12_askOf_137 rfl ?_
        refine r_aload_n (pc := 232) dX12_askOf_232 rfl 0 rfl ?_
        refine r_getI (pc := 233) dX12_askOf_233 fgX12_445 rfl g44 ?_
        cases h
        exact r_iret dX12_askOf_236
      · rcases itc h with ⟨c13, h⟩ | ⟨c13, h⟩
        · refine r_tsIn (x := x2) (pc := 62) (tgt := 140) dX12_askOf_62 (by rw [c13]; decide) (by rw [c13]; decide) (by rw [c13]; rfl) rfl ?_
          refine r_aload_n (pc := 140) dX12_askOf_140 rfl 0 rfl ?_
          refine r_iload_n (pc := 141) dX12_askOf_141 rfl 3 rfl ?_
          refine r_iconst (pc := 142) dX12_askOf_142 kc_iconst_2 ?_
          refine r_icmp_ne (pc := 143) (tgt := 151) dX12_askOf_143 rfl (fun c => ?_) (fun c => ?_)
          · have h := ie h c
            refine r_bipush (pc := 151) dX12_askOf_151 kc_bipush_30 ?_
            refine r_sub [0, 1, 3] rfl ?_
            exact wX12_askOf_b153 h
          · have h := it h c
            refine r_bipush (pc := 146) dX12_askOf_146 kc_bipush_31 ?_
            refine r_goto (pc := 148) (tgt := 153) dX12_askOf_148 rfl ?_
            refine r_sub [0, 1, 3] rfl ?_
            exact wX12_askOf_b153 h
        · rcases itc h with ⟨c14, h⟩ | ⟨c14, h⟩
          · refine r_tsIn (x := x2) (pc := 62) (tgt := 182) dX12_askOf_62 (by rw [c14]; decide) (by rw [c14]; decide) (by rw [c14]; rfl) rfl ?_
            refine r_aload_n (pc := 182) dX12_askOf_182 rfl 0 rfl ?_
            refine r_iload_n (pc := 183) dX12_askOf_183 rfl 3 rfl ?_
            refine r_iconst (pc := 184) dX12_askOf_184 kc_iconst_2 ?_
            refine r_icmp_ne (pc := 185) (tgt := 193) dX12_askOf_185 rfl (fun c => ?_) (fun c => ?_)
            · have h := ie h c
              refine r_bipush (pc := 193) dX12_askOf_193 kc_bipush_7 ?_
              obtain ⟨g29, h⟩ := gd h
              refine r_putI (pc := 195) dX12_askOf_195 fwX12_457 rfl g29 ?_
              refine r_goto (pc := 198) (tgt := 232) dX12_askOf_198 rfl ?_
              refine r_aload_n (pc := 232) dX12_askOf_232 rfl 0 rfl ?_
              refine r_getI (pc := 233) dX12_askOf_233 fgX12_445 rfl g29 ?_
              cases h
              exact r_iret dX12_askOf_236
            · have h := it h c
              refine r_bipush (pc := 188) dX12_askOf_188 kc_bipush_9 ?_
              refine r_goto (pc := 190) (tgt := 195) dX12_askOf_190 rfl ?_
              obtain ⟨g31, h⟩ := gd h
              refine r_putI (pc := 195) dX12_askOf_195 fwX12_457 rfl g31 ?_
              refine r_goto (pc := 198) (tgt := 232) dX12_askOf_198 rfl ?_
              refine r_aload_n (pc := 232) dX12_askOf_232 rfl 0 rfl ?_
              refine r_getI (pc := 233) dX12_askOf_233 fgX12_445 rfl g31 ?_
              cases h
              exact r_iret dX12_askOf_236
          · rcases itc h with ⟨c15, h⟩ | ⟨c15, h⟩
            · refine r_tsIn (x := x2) (pc := 62) (tgt := 201) dX12_askOf_62 (by rw [c15]; decide) (by rw [c15]; decide) (by rw [c15]; rfl) rfl ?_
              refine r_aload_n (pc := 201) dX12_askOf_201 rfl 0 rfl ?_
              refine r_aload_n (pc := 202) dX12_askOf_202 rfl 0 rfl ?_
              obtain ⟨g24, h⟩ := gd h
              obtain ⟨a25, ha25, h⟩ := ob h
              refine r_getS (pc := 203) dX12_askOf_203 fgX12_35 rfl g24 ha25 ?_
              refine r_iload_n (pc := 206) dX12_askOf_206 rfl 1 rfl ?_
              obtain ⟨g26, h⟩ := gd h
              obtain ⟨g27, h⟩ := gd h
              refine r_iaload (pc := 207) dX12_askOf_207 g26 g27 ?_
              refine r_putI (pc := 208) dX12_askOf_208 fwX12_457 rfl g24 ?_
              refine r_goto (pc := 211) (tgt := 232) dX12_askOf_211 rfl ?_
              refine r_aload_n (pc := 232) dX12_askOf_232 rfl 0 rfl ?_
              refine r_getI (pc := 233) dX12_askOf_233 fgX12_445 rfl g24 ?_
              cases h
              exact r_iret dX12_askOf_236
            · rcases itc h with ⟨c16, h⟩ | ⟨c16, h⟩
              · refine r_tsIn (x := x2) (pc := 62) (tgt := 214) dX12_askOf_62 (by rw [c16]; decide) (by rw [c16]; decide) (by rw [c16]; rfl) rfl ?_
                refine r_aload_n (pc := 214) dX12_askOf_214 rfl 0 rfl ?_
                refine r_iload_n (pc := 215) dX12_askOf_215 rfl 3 rfl ?_
                obtain ⟨g22, h⟩ := gd h
                refine r_putI (pc := 216) dX12_askOf_216 fwX12_457 rfl g22 ?_
                refine r_goto (pc := 219) (tgt := 232) dX12_askOf_219 rfl ?_
                refine r_aload_n (pc := 232) dX12_askOf_232 rfl 0 rfl ?_
                refine r_getI (pc := 233) dX12_askOf_233 fgX12_445 rfl g22 ?_
                cases h
                exact r_iret dX12_askOf_236
              · refine r_tsOut (x := x2) (pc := 62) (tgt := 222) dX12_askOf_62 (by have ec10 := i32n c10 (k := 0) rfl; have ec11 := i32n c11 (k := 1) rfl; have ec12 := i32n c12 (k := 2) rfl; have ec13 := i32n c13 (k := 3) rfl; have ec14 := i32n c14 (k := 4) rfl; have ec15 := i32n c15 (k := 5) rfl; have ec16 := i32n c16 (k := 6) rfl; omega) rfl ?_
                refine r_aload_n (pc := 222) dX12_askOf_222 rfl 0 rfl ?_
                refine r_aload_n (pc := 223) dX12_askOf_223 rfl 0 rfl ?_
                obtain ⟨g17, h⟩ := gd h
                obtain ⟨a18, ha18, h⟩ := ob h
                refine r_getS (pc := 224) dX12_askOf_224 fgX12_53 rfl g17 ha18 ?_
                refine r_iload_n (pc := 227) dX12_askOf_227 rfl 1 rfl ?_
                obtain ⟨g19, h⟩ := gd h
                obtain ⟨g20, h⟩ := gd h
                refine r_baload (pc := 228) dX12_askOf_228 g19 g20 ?_
                refine r_putI (pc := 229) dX12_askOf_229 fwX12_457 rfl g17 ?_
                refine r_aload_n (pc := 232) dX12_askOf_232 rfl 0 rfl ?_
                refine r_getI (pc := 233) dX12_askOf_233 fgX12_445 rfl g17 ?_
                cases h
                exact r_iret dX12_askOf_236
def fX12_askOf (σ : Shp) (I : Nat → Nat → Int32) (R : Nat → Nat → Option Nat) (t : Nat) (x1 : Int32) (x2 : Int32) : Option ((Nat → Nat → Int32) × (Int32)) :=
  if kdx σ t = 13 then
  let I2 := u2 I t 24 (0 : Int32)
  let I3 := u2 I2 t 30 (0 : Int32)
  (fX12_isOf σ I3 R t x1 (16 : Int32)).bind fun r4 =>
  if r4 = 0 then
    some (I3, (4 : Int32))
  else
    if x1 = 0 then
      some (I3, (1 : Int32))
    else
      ((R t 12) : Option Nat).bind fun a6 =>
      if kdx σ a6 = 22 then
      if ¬ (x1 < 0 ∨ lnx σ a6 ≤ Int32.toNatClampNeg x1) then
      let v9 := (I3 a6 (Int32.toNatClampNeg x1))
      if x2 = (1 : Int32) then
        if v9 = 0 then
          some (I3, (4 : Int32))
        else
          if v9 = (4 : Int32) then
            some (I3, (4 : Int32))
          else
            if x2 = (2 : Int32) then
              if v9 = (5 : Int32) then
                some (I3, (4 : Int32))
              else
                fX12_askOf_b61 σ R t I3 x1 x2 v9
            else
              fX12_askOf_b61 σ R t I3 x1 x2 v9
      else
        if x2 = (2 : Int32) then
          if v9 = (5 : Int32) then
            some (I3, (4 : Int32))
          else
            fX12_askOf_b61 σ R t I3 x1 x2 v9
        else
          fX12_askOf_b61 σ R t I3 x1 x2 v9
      else none
      else none
  else none
theorem kX12_askOf {G : Gx} {l : Launch} {σ : Shp} {I : Nat → Nat → Int32} {J : Nat → Nat → Int64} {D : Nat → Nat → UInt64} {R : Nat → Nat → Option Nat} {t : Nat} {x1 : Int32} {x2 : Int32} {I9 : Nat → Nat → Int32} {r9 : Int32} (h : fX12_askOf σ I R t x1 x2 = some (I9, r9)) : Con G l yX12_askOf cX12_askOf 4 (some .int) 5 113 [vR (some t), vI x1, vI x2] (σ, I, J, D, R) (σ, I9, J, D, R) (some (vI r9)) := by
  unfold fX12_askOf at h
  refine Con.mk (by decide +kernel) rfl (Nat.le_of_ble_eq_true rfl) ?_
  show WX12_askOf G l σ (σ, I9, J, D, R) (some (vI r9)) (σ, I, J, D, R) 0 _ []
  refine r_aload_n (pc := 0) dX12_askOf_0 rfl 0 rfl ?_
  refine r_iconst (pc := 1) dX12_askOf_1 kc_iconst_0 ?_
  obtain ⟨g1, h⟩ := gd h
  refine r_putI (pc := 2) dX12_askOf_2 fwX12_438 rfl g1 ?_
  refine r_aload_n (pc := 5) dX12_askOf_5 rfl 0 rfl ?_
  refine r_iconst (pc := 6) dX12_askOf_6 kc_iconst_0 ?_
  refine r_putI (pc := 7) dX12_askOf_7 fwX12_445 rfl g1 ?_
  refine r_aload_n (pc := 10) dX12_askOf_10 rfl 0 rfl ?_
  refine r_iload_n (pc := 11) dX12_askOf_11 rfl 1 rfl ?_
  refine r_bipush (pc := 12) dX12_askOf_12 kc_bipush_16 ?_
  obtain ⟨r4, hc5, h⟩ := ob h
  refine r_callV1 (pc := 14) (av := [vI x1, vI (16 : Int32)]) (S := []) dX12_askOf_14 (kX12_isOf hc5) g1 rfl mkX12_363 mwX12_isOf rfl ⟨Nat.le_of_ble_eq_true rfl, Nat.le_of_ble_eq_true rfl⟩ (Nat.le_of_ble_eq_true rfl) ⟨Nat.le_refl _, Nat.le_refl _⟩ (fun b => b) ?_
  refine r_ifne (pc := 17) (tgt := 22) dX12_askOf_17 rfl (fun c => ?_) (fun c => ?_)
  · have h := ie h c
    refine r_iload_n (pc := 22) dX12_askOf_22 rfl 1 rfl ?_
    refine r_ifne (pc := 23) (tgt := 28) dX12_askOf_23 rfl (fun c => ?_) (fun c => ?_)
    · have h := ie h c
      refine r_aload_n (pc := 28) dX12_askOf_28 rfl 0 rfl ?_
      obtain ⟨a6, ha6, h⟩ := ob h
      refine r_getS (pc := 29) dX12_askOf_29 fgX12_38 rfl g1 ha6 ?_
      refine r_iload_n (pc := 32) dX12_askOf_32 rfl 1 rfl ?_
      obtain ⟨g7, h⟩ := gd h
      obtain ⟨g8, h⟩ := gd h
      refine r_baload (pc := 33) dX12_askOf_33 g7 g8 ?_
      refine r_istore_n (pc := 34) (L' := [(3, vI ((u2 (u2 I t 24 (0 : Int32)) t 30 (0 : Int32)) a6 (Int32.toNatClampNeg x1))), (0, vR (some t)), (1, vI x1), (2, vI x2)]) dX12_askOf_34 rfl (by decide) rfl ?_
      refine r_iload_n (pc := 35) dX12_askOf_35 rfl 3 rfl ?_
      refine r_iconst (pc := 36) dX12_askOf_36 kc_iconst_1 ?_
      refine r_icmp_ne (pc := 37) (tgt := 49) dX12_askOf_37 rfl (fun c => ?_) (fun c => ?_)
      · have h := ie h c
        refine r_iload_n (pc := 49) dX12_askOf_49 rfl 3 rfl ?_
        refine r_iconst (pc := 50) dX12_askOf_50 kc_iconst_2 ?_
        refine r_icmp_ne (pc := 51) (tgt := 61) dX12_askOf_51 rfl (fun c => ?_) (fun c => ?_)
        · have h := ie h c
          refine r_sub [1, 2, 3, 0] rfl ?_
          exact wX12_askOf_b61 h
        · have h := it h c
          refine r_iload_n (pc := 54) dX12_askOf_54 rfl 0 rfl ?_
          refine r_iconst (pc := 55) dX12_askOf_55 kc_iconst_5 ?_
          refine r_icmp_ne (pc := 56) (tgt := 61) dX12_askOf_56 rfl (fun c => ?_) (fun c => ?_)
          · have h := ie h c
            refine r_sub [1, 2, 3, 0] rfl ?_
            exact wX12_askOf_b61 h
          · have h := it h c
            refine r_iconst (pc := 59) dX12_askOf_59 kc_iconst_4 ?_
            cases h
            exact r_iret dX12_askOf_60
      · have h := it h c
        refine r_iload_n (pc := 40) dX12_askOf_40 rfl 0 rfl ?_
        refine r_if_eq (pc := 41) (tgt := 59) dX12_askOf_41 rfl (fun c => ?_) (fun c => ?_)
        · have h := it h c
          refine r_iconst (pc := 59) dX12_askOf_59 kc_iconst_4 ?_
          cases h
          exact r_iret dX12_askOf_60
        · have h := ie h c
          refine r_iload_n (pc := 44) dX12_askOf_44 rfl 0 rfl ?_
          refine r_iconst (pc := 45) dX12_askOf_45 kc_iconst_4 ?_
          refine r_icmp_eq (pc := 46) (tgt := 59) dX12_askOf_46 rfl (fun c => ?_) (fun c => ?_)
          · have h := it h c
            refine r_iconst (pc := 59) dX12_askOf_59 kc_iconst_4 ?_
            cases h
            exact r_iret dX12_askOf_60
          · have h := ie h c
            refine r_iload_n (pc := 49) dX12_askOf_49 rfl 3 rfl ?_
            refine r_iconst (pc := 50) dX12_askOf_50 kc_iconst_2 ?_
            refine r_icmp_ne (pc := 51) (tgt := 61) dX12_askOf_51 rfl (fun c => ?_) (fun c => ?_)
            · have h := ie h c
              refine r_sub [1, 2, 3, 0] rfl ?_
              exact wX12_askOf_b61 h
            · have h := it h c
              refine r_iload_n (pc := 54) dX12_askOf_54 rfl 0 rfl ?_
              refine r_iconst (pc := 55) dX12_askOf_55 kc_iconst_5 ?_
              refine r_icmp_ne (pc := 56) (tgt := 61) dX12_askOf_56 rfl (fun c => ?_) (fun c => ?_)
              · have h := ie h c
                refine r_sub [1, 2, 3, 0] rfl ?_
                exact wX12_askOf_b61 h
              · have h := it h c
                refine r_iconst (pc := 59) dX12_askOf_59 kc_iconst_4 ?_
                cases h
                exact r_iret dX12_askOf_60
    · have h := it h c
      refine r_iconst (pc := 26) dX12_askOf_26 kc_iconst_1 ?_
      cases h
      exact r_iret dX12_askOf_27
  · have h := it h c
    refine r_iconst (pc := 20) dX12_askOf_20 kc_iconst_4 ?_
    cases h
    exact r_iret dX12_askOf_21
abbrev WX12_ask (G : Gx) (l : Launch) (σ0 : Shp) (X1 : Stt) (rv : Option SV) : Stt → Nat → List (Nat × SV) → List SV → Prop := Wm G l yX12_ask cX12_ask 4 (some .int) (fun _ => True) (rmx 6 136 σ0 X1.1) σ0 (Qmx G σ0 X1 rv)
def fX12_ask (σ : Shp) (I : Nat → Nat → Int32) (R : Nat → Nat → Option Nat) (t : Nat) (x1 : Int32) (x2 : Int32) : Option ((Nat → Nat → Int32) × (Int32)) :=
  if (fX12_isBin x1) = 0 then
    some (I, (-2 : Int32))
  else
    if (fX12_in x2 (0 : Int32) (7 : Int32)) = 0 then
      some (I, (-2 : Int32))
    else
      if kdx σ t = 13 then
      ((R t 3) : Option Nat).bind fun a2 =>
      if kdx σ a2 = 20 then
      if ¬ (x1 < 0 ∨ lnx σ a2 ≤ Int32.toNatClampNeg x1) then
      (fX12_askOf σ I R t (I a2 (Int32.toNatClampNeg x1)) x2).bind fun (I5, r6) =>
      if r6 = 0 then
        let I8 := u2 I5 t 25 (I5 t 29)
        some (I8, (1 : Int32))
      else
        (fX12_no σ I5 t r6).bind fun (I9, r10) =>
        some (I9, r10)
      else none
      else none
      else none
theorem kX12_ask {G : Gx} {l : Launch} {σ : Shp} {I : Nat → Nat → Int32} {J : Nat → Nat → Int64} {D : Nat → Nat → UInt64} {R : Nat → Nat → Option Nat} {t : Nat} {x1 : Int32} {x2 : Int32} {I9 : Nat → Nat → Int32} {r9 : Int32} (h : fX12_ask σ I R t x1 x2 = some (I9, r9)) : Con G l yX12_ask cX12_ask 4 (some .int) 6 136 [vR (some t), vI x1, vI x2] (σ, I, J, D, R) (σ, I9, J, D, R) (some (vI r9)) := by
  unfold fX12_ask at h
  refine Con.mk (by decide +kernel) rfl (Nat.le_of_ble_eq_true rfl) ?_
  show WX12_ask G l σ (σ, I9, J, D, R) (some (vI r9)) (σ, I, J, D, R) 0 _ []
  refine r_iload_n (pc := 0) dX12_ask_0 rfl 1 rfl ?_
  refine r_callS1 (pc := 1) (av := [vI x1]) (S := []) dX12_ask_1 (kX12_isBin rfl) mkX12_345 mwX12_isBin rfl ⟨Nat.le_of_ble_eq_true rfl, Nat.le_of_ble_eq_true rfl⟩ (Nat.le_of_ble_eq_true rfl) ⟨Nat.le_refl _, Nat.le_refl _⟩ (fun b => b) ?_
  refine r_if_eq (pc := 4) (tgt := 17) dX12_ask_4 rfl (fun c => ?_) (fun c => ?_)
  · have h := it h c
    refine r_bipush (pc := 17) dX12_ask_17 kc_bipush_m2 ?_
    cases h
    exact r_iret dX12_ask_19
  · have h := ie h c
    refine r_iload_n (pc := 7) dX12_ask_7 rfl 2 rfl ?_
    refine r_iconst (pc := 8) dX12_ask_8 kc_iconst_0 ?_
    refine r_bipush (pc := 9) dX12_ask_9 kc_bipush_7 ?_
    refine r_callS1 (pc := 11) (av := [vI x2, vI (0 : Int32), vI (7 : Int32)]) (S := []) dX12_ask_11 (kX12_in rfl) mkX12_322 mwX12_in rfl ⟨Nat.le_of_ble_eq_true rfl, Nat.le_of_ble_eq_true rfl⟩ (Nat.le_of_ble_eq_true rfl) ⟨Nat.le_refl _, Nat.le_refl _⟩ (fun b => b) ?_
    refine r_ifne (pc := 14) (tgt := 20) dX12_ask_14 rfl (fun c => ?_) (fun c => ?_)
    · have h := ie h c
      refine r_aload_n (pc := 20) dX12_ask_20 rfl 0 rfl ?_
      refine r_aload_n (pc := 21) dX12_ask_21 rfl 0 rfl ?_
      obtain ⟨g1, h⟩ := gd h
      obtain ⟨a2, ha2, h⟩ := ob h
      refine r_getS (pc := 22) dX12_ask_22 fgX12_9 rfl g1 ha2 ?_
      refine r_iload_n (pc := 25) dX12_ask_25 rfl 1 rfl ?_
      obtain ⟨g3, h⟩ := gd h
      obtain ⟨g4, h⟩ := gd h
      refine r_iaload (pc := 26) dX12_ask_26 g3 g4 ?_
      refine r_iload_n (pc := 27) dX12_ask_27 rfl 2 rfl ?_
      obtain ⟨⟨I5, r6⟩, hc7, h⟩ := ob h
      refine r_callV1 (pc := 28) (av := [vI (I a2 (Int32.toNatClampNeg x1)), vI x2]) (S := []) dX12_ask_28 (kX12_askOf hc7) g1 rfl mkX12_463 mwX12_askOf rfl ⟨Nat.le_of_ble_eq_true rfl, Nat.le_of_ble_eq_true rfl⟩ (Nat.le_of_ble_eq_true rfl) ⟨Nat.le_refl _, Nat.le_refl _⟩ (fun b => b) ?_
      refine r_istore_n (pc := 31) (L' := [(3, vI r6), (0, vR (some t)), (1, vI x1), (2, vI x2)]) dX12_ask_31 rfl (by decide) rfl ?_
      refine r_iload_n (pc := 32) dX12_ask_32 rfl 0 rfl ?_
      refine r_if_eq (pc := 33) (tgt := 42) dX12_ask_33 rfl (fun c => ?_) (fun c => ?_)
      · have h := it h c
        refine r_aload_n (pc := 42) dX12_ask_42 rfl 1 rfl ?_
        refine r_aload_n (pc := 43) dX12_ask_43 rfl 1 rfl ?_
        refine r_getI (pc := 44) dX12_ask_44 fgX12_457 rfl g1 ?_
        refine r_putI (pc := 47) dX12_ask_47 fwX12_466 rfl g1 ?_
        refine r_iconst (pc := 50) dX12_ask_50 kc_iconst_1 ?_
        cases h
        exact r_iret dX12_ask_51
      · have h := ie h c
        refine r_aload_n (pc := 36) dX12_ask_36 rfl 1 rfl ?_
        refine r_iload_n (pc := 37) dX12_ask_37 rfl 0 rfl ?_
        obtain ⟨⟨I9, r10⟩, hc11, h⟩ := ob h
        refine r_callV1 (pc := 38) (av := [vI r6]) (S := []) dX12_ask_38 (kX12_no hc11) g1 rfl mkX12_308 mwX12_no rfl ⟨Nat.le_of_ble_eq_true rfl, Nat.le_of_ble_eq_true rfl⟩ (Nat.le_of_ble_eq_true rfl) ⟨Nat.le_refl _, Nat.le_refl _⟩ (fun b => b) ?_
        cases h
        exact r_iret dX12_ask_41
    · have h := it h c
      refine r_bipush (pc := 17) dX12_ask_17 kc_bipush_m2 ?_
      cases h
      exact r_iret dX12_ask_19
abbrev WX12_answer (G : Gx) (l : Launch) (σ0 : Shp) (X1 : Stt) (rv : Option SV) : Stt → Nat → List (Nat × SV) → List SV → Prop := Wm G l yX12_answer cX12_answer 1 (some .int) (fun _ => True) (rmx 0 0 σ0 X1.1) σ0 (Qmx G σ0 X1 rv)
def fX12_answer (σ : Shp) (I : Nat → Nat → Int32) (t : Nat)  : Option ((Int32)) :=
  if kdx σ t = 13 then
  some (I t 25)
  else none
theorem kX12_answer {G : Gx} {l : Launch} {σ : Shp} {I : Nat → Nat → Int32} {J : Nat → Nat → Int64} {D : Nat → Nat → UInt64} {R : Nat → Nat → Option Nat} {t : Nat}  {r9 : Int32} (h : fX12_answer σ I t = some r9) : Con G l yX12_answer cX12_answer 1 (some .int) 0 0 [vR (some t)] (σ, I, J, D, R) (σ, I, J, D, R) (some (vI r9)) := by
  unfold fX12_answer at h
  refine Con.mk (by decide +kernel) rfl (Nat.le_of_ble_eq_true rfl) ?_
  show WX12_answer G l σ (σ, I, J, D, R) (some (vI r9)) (σ, I, J, D, R) 0 _ []
  refine r_aload_n (pc := 0) dX12_answer_0 rfl 0 rfl ?_
  obtain ⟨g1, h⟩ := gd h
  refine r_getI (pc := 1) dX12_answer_1 fgX12_466 rfl g1 ?_
  cases h
  exact r_iret dX12_answer_4
abbrev WX12_trace (G : Gx) (l : Launch) (σ0 : Shp) (X1 : Stt) (rv : Option SV) : Stt → Nat → List (Nat × SV) → List SV → Prop := Wm G l yX12_trace cX12_trace 2 (some .int) (fun _ => True) (rmx 1 22 σ0 X1.1) σ0 (Qmx G σ0 X1 rv)
def fX12_trace (σ : Shp) (I : Nat → Nat → Int32) (R : Nat → Nat → Option Nat) (t : Nat) (x1 : Int32) : Option ((Int32)) :=
  if kdx σ t = 13 then
  if (fX12_in x1 (0 : Int32) ((I t 24) - (1 : Int32))) = 0 then
    some (-1 : Int32)
  else
    ((R t 23) : Option Nat).bind fun a2 =>
    if kdx σ a2 = 20 then
    if ¬ (x1 < 0 ∨ lnx σ a2 ≤ Int32.toNatClampNeg x1) then
    some (I a2 (Int32.toNatClampNeg x1))
    else none
    else none
  else none
theorem kX12_trace {G : Gx} {l : Launch} {σ : Shp} {I : Nat → Nat → Int32} {J : Nat → Nat → Int64} {D : Nat → Nat → UInt64} {R : Nat → Nat → Option Nat} {t : Nat} {x1 : Int32} {r9 : Int32} (h : fX12_trace σ I R t x1 = some r9) : Con G l yX12_trace cX12_trace 2 (some .int) 1 22 [vR (some t), vI x1] (σ, I, J, D, R) (σ, I, J, D, R) (some (vI r9)) := by
  unfold fX12_trace at h
  refine Con.mk (by decide +kernel) rfl (Nat.le_of_ble_eq_true rfl) ?_
  show WX12_trace G l σ (σ, I, J, D, R) (some (vI r9)) (σ, I, J, D, R) 0 _ []
  refine r_iload_n (pc := 0) dX12_trace_0 rfl 1 rfl ?_
  refine r_iconst (pc := 1) dX12_trace_1 kc_iconst_0 ?_
  refine r_aload_n (pc := 2) dX12_trace_2 rfl 0 rfl ?_
  obtain ⟨g1, h⟩ := gd h
  refine r_getI (pc := 3) dX12_trace_3 fgX12_438 rfl g1 ?_
  refine r_iconst (pc := 6) dX12_trace_6 kc_iconst_1 ?_
  refine r_isub (pc := 7) dX12_trace_7 ?_
  refine r_callS1 (pc := 8) (av := [vI x1, vI (0 : Int32), vI ((I t 24) - (1 : Int32))]) (S := []) dX12_trace_8 (kX12_in rfl) mkX12_322 mwX12_in rfl ⟨Nat.le_of_ble_eq_true rfl, Nat.le_of_ble_eq_true rfl⟩ (Nat.le_of_ble_eq_true rfl) ⟨Nat.le_refl _, Nat.le_refl _⟩ (fun b => b) ?_
  refine r_if_eq (pc := 11) (tgt := 23) dX12_trace_11 rfl (fun c => ?_) (fun c => ?_)
  · have h := it h c
    refine r_iconst (pc := 23) dX12_trace_23 kc_iconst_m1 ?_
    cases h
    exact r_iret dX12_trace_24
  · have h := ie h c
    refine r_aload_n (pc := 14) dX12_trace_14 rfl 0 rfl ?_
    obtain ⟨a2, ha2, h⟩ := ob h
    refine r_getS (pc := 15) dX12_trace_15 fgX12_59 rfl g1 ha2 ?_
    refine r_iload_n (pc := 18) dX12_trace_18 rfl 1 rfl ?_
    obtain ⟨g3, h⟩ := gd h
    obtain ⟨g4, h⟩ := gd h
    refine r_iaload (pc := 19) dX12_trace_19 g3 g4 ?_
    refine r_goto (pc := 20) (tgt := 24) dX12_trace_20 rfl ?_
    cases h
    exact r_iret dX12_trace_24
abbrev WX12_card (G : Gx) (l : Launch) (σ0 : Shp) (X1 : Stt) (rv : Option SV) : Stt → Nat → List (Nat × SV) → List SV → Prop := Wm G l yX12_card cX12_card 2 (some .int) (fun _ => True) (rmx 2 43 σ0 X1.1) σ0 (Qmx G σ0 X1 rv)
def fX12_card (σ : Shp) (I : Nat → Nat → Int32) (R : Nat → Nat → Option Nat) (t : Nat) (x1 : Int32) : Option ((Nat → Nat → Int32) × (Int32)) :=
  if (fX12_isBin x1) = 0 then
    some (I, (-2 : Int32))
  else
    if kdx σ t = 13 then
    (fX12_isFull σ I t).bind fun r2 =>
    if r2 = 0 then
      ((R t 3) : Option Nat).bind fun a4 =>
      (fX12_newCard σ I R t).bind fun (I5, r6) =>
      if kdx σ a4 = 20 then
      if ¬ (x1 < 0 ∨ lnx σ a4 ≤ Int32.toNatClampNeg x1) then
      let I10 := u2 I5 a4 (Int32.toNatClampNeg x1) r6
      ((R t 11) : Option Nat).bind fun a11 =>
      if kdx σ a11 = 20 then
      if ¬ ((I10 a4 (Int32.toNatClampNeg x1)) < 0 ∨ lnx σ a11 ≤ Int32.toNatClampNeg (I10 a4 (Int32.toNatClampNeg x1))) then
      some (I10, (I10 a11 (Int32.toNatClampNeg (I10 a4 (Int32.toNatClampNeg x1)))))
      else none
      else none
      else none
      else none
    else
      some (I, (-4 : Int32))
    else none
theorem kX12_card {G : Gx} {l : Launch} {σ : Shp} {I : Nat → Nat → Int32} {J : Nat → Nat → Int64} {D : Nat → Nat → UInt64} {R : Nat → Nat → Option Nat} {t : Nat} {x1 : Int32} {I9 : Nat → Nat → Int32} {r9 : Int32} (h : fX12_card σ I R t x1 = some (I9, r9)) : Con G l yX12_card cX12_card 2 (some .int) 2 43 [vR (some t), vI x1] (σ, I, J, D, R) (σ, I9, J, D, R) (some (vI r9)) := by
  unfold fX12_card at h
  refine Con.mk (by decide +kernel) rfl (Nat.le_of_ble_eq_true rfl) ?_
  show WX12_card G l σ (σ, I9, J, D, R) (some (vI r9)) (σ, I, J, D, R) 0 _ []
  refine r_iload_n (pc := 0) dX12_card_0 rfl 1 rfl ?_
  refine r_callS1 (pc := 1) (av := [vI x1]) (S := []) dX12_card_1 (kX12_isBin rfl) mkX12_345 mwX12_isBin rfl ⟨Nat.le_of_ble_eq_true rfl, Nat.le_of_ble_eq_true rfl⟩ (Nat.le_of_ble_eq_true rfl) ⟨Nat.le_refl _, Nat.le_refl _⟩ (fun b => b) ?_
  refine r_ifne (pc := 4) (tgt := 10) dX12_card_4 rfl (fun c => ?_) (fun c => ?_)
  · have h := ie h c
    refine r_aload_n (pc := 10) dX12_card_10 rfl 0 rfl ?_
    obtain ⟨g1, h⟩ := gd h
    obtain ⟨r2, hc3, h⟩ := ob h
    refine r_callV1 (pc := 11) (av := []) (S := []) dX12_card_11 (kX12_isFull hc3) g1 rfl mkX12_349 mwX12_isFull rfl ⟨Nat.le_of_ble_eq_true rfl, Nat.le_of_ble_eq_true rfl⟩ (Nat.le_of_ble_eq_true rfl) ⟨Nat.le_refl _, Nat.le_refl _⟩ (fun b => b) ?_
    refine r_if_eq (pc := 14) (tgt := 20) dX12_card_14 rfl (fun c => ?_) (fun c => ?_)
    · have h := it h c
      refine r_aload_n (pc := 20) dX12_card_20 rfl 0 rfl ?_
      obtain ⟨a4, ha4, h⟩ := ob h
      refine r_getS (pc := 21) dX12_card_21 fgX12_9 rfl g1 ha4 ?_
      refine r_iload_n (pc := 24) dX12_card_24 rfl 1 rfl ?_
      refine r_aload_n (pc := 25) dX12_card_25 rfl 0 rfl ?_
      obtain ⟨⟨I5, r6⟩, hc7, h⟩ := ob h
      refine r_callV1 (pc := 26) (av := []) (S := [vI x1, vR (some a4)]) dX12_card_26 (kX12_newCard hc7) g1 rfl mkX12_412 mwX12_newCard rfl ⟨Nat.le_of_ble_eq_true rfl, Nat.le_of_ble_eq_true rfl⟩ (Nat.le_of_ble_eq_true rfl) ⟨Nat.le_refl _, Nat.le_refl _⟩ (fun b => b) ?_
      obtain ⟨g8, h⟩ := gd h
      obtain ⟨g9, h⟩ := gd h
      refine r_iastore (pc := 29) dX12_card_29 g8 g9 ?_
      refine r_aload_n (pc := 30) dX12_card_30 rfl 0 rfl ?_
      obtain ⟨a11, ha11, h⟩ := ob h
      refine r_getS (pc := 31) dX12_card_31 fgX12_35 rfl g1 ha11 ?_
      refine r_aload_n (pc := 34) dX12_card_34 rfl 0 rfl ?_
      refine r_getS (pc := 35) dX12_card_35 fgX12_9 rfl g1 ha4 ?_
      refine r_iload_n (pc := 38) dX12_card_38 rfl 1 rfl ?_
      refine r_iaload (pc := 39) dX12_card_39 g8 g9 ?_
      obtain ⟨g12, h⟩ := gd h
      obtain ⟨g13, h⟩ := gd h
      refine r_iaload (pc := 40) dX12_card_40 g12 g13 ?_
      cases h
      exact r_iret dX12_card_41
    · have h := ie h c
      refine r_bipush (pc := 17) dX12_card_17 kc_bipush_m4 ?_
      cases h
      exact r_iret dX12_card_19
  · have h := it h c
    refine r_bipush (pc := 7) dX12_card_7 kc_bipush_m2 ?_
    cases h
    exact r_iret dX12_card_9
abbrev WX12_againstCard (G : Gx) (l : Launch) (σ0 : Shp) (X1 : Stt) (rv : Option SV) : Stt → Nat → List (Nat × SV) → List SV → Prop := Wm G l yX12_againstCard cX12_againstCard 2 (some .int) (fun _ => True) (rmx 1 22 σ0 X1.1) σ0 (Qmx G σ0 X1 rv)
def fX12_againstCard (σ : Shp) (I : Nat → Nat → Int32) (R : Nat → Nat → Option Nat) (t : Nat) (x1 : Int32) : Option ((Int32)) :=
  if kdx σ t = 13 then
  (fX12_isOf σ I R t x1 (17 : Int32)).bind fun r2 =>
  if r2 = 0 then
    some (4 : Int32)
  else
    if x1 = 0 then
      some (1 : Int32)
    else
      some (0 : Int32)
  else none
theorem kX12_againstCard {G : Gx} {l : Launch} {σ : Shp} {I : Nat → Nat → Int32} {J : Nat → Nat → Int64} {D : Nat → Nat → UInt64} {R : Nat → Nat → Option Nat} {t : Nat} {x1 : Int32} {r9 : Int32} (h : fX12_againstCard σ I R t x1 = some r9) : Con G l yX12_againstCard cX12_againstCard 2 (some .int) 1 22 [vR (some t), vI x1] (σ, I, J, D, R) (σ, I, J, D, R) (some (vI r9)) := by
  unfold fX12_againstCard at h
  refine Con.mk (by decide +kernel) rfl (Nat.le_of_ble_eq_true rfl) ?_
  show WX12_againstCard G l σ (σ, I, J, D, R) (some (vI r9)) (σ, I, J, D, R) 0 _ []
  refine r_aload_n (pc := 0) dX12_againstCard_0 rfl 0 rfl ?_
  refine r_iload_n (pc := 1) dX12_againstCard_1 rfl 1 rfl ?_
  refine r_bipush (pc := 2) dX12_againstCard_2 kc_bipush_17 ?_
  obtain ⟨g1, h⟩ := gd h
  obtain ⟨r2, hc3, h⟩ := ob h
  refine r_callV1 (pc := 4) (av := [vI x1, vI (17 : Int32)]) (S := []) dX12_againstCard_4 (kX12_isOf hc3) g1 rfl mkX12_363 mwX12_isOf rfl ⟨Nat.le_of_ble_eq_true rfl, Nat.le_of_ble_eq_true rfl⟩ (Nat.le_of_ble_eq_true rfl) ⟨Nat.le_refl _, Nat.le_refl _⟩ (fun b => b) ?_
  refine r_ifne (pc := 7) (tgt := 14) dX12_againstCard_7 rfl (fun c => ?_) (fun c => ?_)
  · have h := ie h c
    refine r_iload_n (pc := 14) dX12_againstCard_14 rfl 1 rfl ?_
    refine r_ifne (pc := 15) (tgt := 22) dX12_againstCard_15 rfl (fun c => ?_) (fun c => ?_)
    · have h := ie h c
      refine r_iconst (pc := 22) dX12_againstCard_22 kc_iconst_0 ?_
      cases h
      exact r_iret dX12_againstCard_23
    · have h := it h c
      refine r_iconst (pc := 18) dX12_againstCard_18 kc_iconst_1 ?_
      refine r_goto (pc := 19) (tgt := 23) dX12_againstCard_19 rfl ?_
      cases h
      exact r_iret dX12_againstCard_23
  · have h := it h c
    refine r_iconst (pc := 10) dX12_againstCard_10 kc_iconst_4 ?_
    refine r_goto (pc := 11) (tgt := 23) dX12_againstCard_11 rfl ?_
    cases h
    exact r_iret dX12_againstCard_23
abbrev WX12_field (G : Gx) (l : Launch) (σ0 : Shp) (X1 : Stt) (rv : Option SV) : Stt → Nat → List (Nat × SV) → List SV → Prop := Wm G l yX12_field cX12_field 4 (some .long) (fun _ => True) (rmx 2 43 σ0 X1.1) σ0 (Qmx G σ0 X1 rv)
def fX12_field (σ : Shp) (I : Nat → Nat → Int32) (J : Nat → Nat → Int64) (R : Nat → Nat → Option Nat) (t : Nat) (x1 : Int32) (x2 : Int32) : Option ((Nat → Nat → Int32) × (Int64)) :=
  if (fX12_isBin x1) = 0 then
    some (I, (0 : Int64))
  else
    if (fX12_in x2 (0 : Int32) (7 : Int32)) = 0 then
      some (I, (0 : Int64))
    else
      if kdx σ t = 13 then
      ((R t 3) : Option Nat).bind fun a2 =>
      if kdx σ a2 = 20 then
      if ¬ (x1 < 0 ∨ lnx σ a2 ≤ Int32.toNatClampNeg x1) then
      (fX12_againstCard σ I R t (I a2 (Int32.toNatClampNeg x1))).bind fun r5 =>
      if r5 = 0 then
        ((R t 8) : Option Nat).bind fun a7 =>
        ((R t 6) : Option Nat).bind fun a8 =>
        if kdx σ a8 = 20 then
        if ¬ ((I a2 (Int32.toNatClampNeg x1)) < 0 ∨ lnx σ a8 ≤ Int32.toNatClampNeg (I a2 (Int32.toNatClampNeg x1))) then
        if kdx σ a7 = 21 then
        if ¬ (((I a8 (Int32.toNatClampNeg (I a2 (Int32.toNatClampNeg x1)))) + x2) < 0 ∨ lnx σ a7 ≤ Int32.toNatClampNeg ((I a8 (Int32.toNatClampNeg (I a2 (Int32.toNatClampNeg x1)))) + x2)) then
        some (I, (J a7 (Int32.toNatClampNeg ((I a8 (Int32.toNatClampNeg (I a2 (Int32.toNatClampNeg x1)))) + x2))))
        else none
        else none
        else none
        else none
      else
        (fX12_noBits σ I t r5).bind fun (I13, r14) =>
        some (I13, r14)
      else none
      else none
      else none
theorem kX12_field {G : Gx} {l : Launch} {σ : Shp} {I : Nat → Nat → Int32} {J : Nat → Nat → Int64} {D : Nat → Nat → UInt64} {R : Nat → Nat → Option Nat} {t : Nat} {x1 : Int32} {x2 : Int32} {I9 : Nat → Nat → Int32} {r9 : Int64} (h : fX12_field σ I J R t x1 x2 = some (I9, r9)) : Con G l yX12_field cX12_field 4 (some .long) 2 43 [vR (some t), vI x1, vI x2] (σ, I, J, D, R) (σ, I9, J, D, R) (some (vL r9)) := by
  unfold fX12_field at h
  refine Con.mk (by decide +kernel) rfl (Nat.le_of_ble_eq_true rfl) ?_
  show WX12_field G l σ (σ, I9, J, D, R) (some (vL r9)) (σ, I, J, D, R) 0 _ []
  refine r_iload_n (pc := 0) dX12_field_0 rfl 1 rfl ?_
  refine r_callS1 (pc := 1) (av := [vI x1]) (S := []) dX12_field_1 (kX12_isBin rfl) mkX12_345 mwX12_isBin rfl ⟨Nat.le_of_ble_eq_true rfl, Nat.le_of_ble_eq_true rfl⟩ (Nat.le_of_ble_eq_true rfl) ⟨Nat.le_refl _, Nat.le_refl _⟩ (fun b => b) ?_
  refine r_if_eq (pc := 4) (tgt := 17) dX12_field_4 rfl (fun c => ?_) (fun c => ?_)
  · have h := it h c
    refine r_lconst (pc := 17) dX12_field_17 kc_lconst_0 ?_
    cases h
    exact r_lret dX12_field_18
  · have h := ie h c
    refine r_iload_n (pc := 7) dX12_field_7 rfl 2 rfl ?_
    refine r_iconst (pc := 8) dX12_field_8 kc_iconst_0 ?_
    refine r_bipush (pc := 9) dX12_field_9 kc_bipush_7 ?_
    refine r_callS1 (pc := 11) (av := [vI x2, vI (0 : Int32), vI (7 : Int32)]) (S := []) dX12_field_11 (kX12_in rfl) mkX12_322 mwX12_in rfl ⟨Nat.le_of_ble_eq_true rfl, Nat.le_of_ble_eq_true rfl⟩ (Nat.le_of_ble_eq_true rfl) ⟨Nat.le_refl _, Nat.le_refl _⟩ (fun b => b) ?_
    refine r_ifne (pc := 14) (tgt := 19) dX12_field_14 rfl (fun c => ?_) (fun c => ?_)
    · have h := ie h c
      refine r_aload_n (pc := 19) dX12_field_19 rfl 0 rfl ?_
      refine r_aload_n (pc := 20) dX12_field_20 rfl 0 rfl ?_
      obtain ⟨g1, h⟩ := gd h
      obtain ⟨a2, ha2, h⟩ := ob h
      refine r_getS (pc := 21) dX12_field_21 fgX12_9 rfl g1 ha2 ?_
      refine r_iload_n (pc := 24) dX12_field_24 rfl 1 rfl ?_
      obtain ⟨g3, h⟩ := gd h
      obtain ⟨g4, h⟩ := gd h
      refine r_iaload (pc := 25) dX12_field_25 g3 g4 ?_
      obtain ⟨r5, hc6, h⟩ := ob h
      refine r_callV1 (pc := 26) (av := [vI (I a2 (Int32.toNatClampNeg x1))]) (S := []) dX12_field_26 (kX12_againstCard hc6) g1 rfl mkX12_472 mwX12_againstCard rfl ⟨Nat.le_of_ble_eq_true rfl, Nat.le_of_ble_eq_true rfl⟩ (Nat.le_of_ble_eq_true rfl) ⟨Nat.le_refl _, Nat.le_refl _⟩ (fun b => b) ?_
      refine r_istore_n (pc := 29) (L' := [(3, vI r5), (0, vR (some t)), (1, vI x1), (2, vI x2)]) dX12_field_29 rfl (by decide) rfl ?_
      refine r_iload_n (pc := 30) dX12_field_30 rfl 0 rfl ?_
      refine r_if_eq (pc := 31) (tgt := 42) dX12_field_31 rfl (fun c => ?_) (fun c => ?_)
      · have h := it h c
        refine r_aload_n (pc := 42) dX12_field_42 rfl 1 rfl ?_
        obtain ⟨a7, ha7, h⟩ := ob h
        refine r_getS (pc := 43) dX12_field_43 fgX12_26 rfl g1 ha7 ?_
        refine r_aload_n (pc := 46) dX12_field_46 rfl 1 rfl ?_
        obtain ⟨a8, ha8, h⟩ := ob h
        refine r_getS (pc := 47) dX12_field_47 fgX12_22 rfl g1 ha8 ?_
        refine r_aload_n (pc := 50) dX12_field_50 rfl 1 rfl ?_
        refine r_getS (pc := 51) dX12_field_51 fgX12_9 rfl g1 ha2 ?_
        refine r_iload_n (pc := 54) dX12_field_54 rfl 2 rfl ?_
        refine r_iaload (pc := 55) dX12_field_55 g3 g4 ?_
        obtain ⟨g9, h⟩ := gd h
        obtain ⟨g10, h⟩ := gd h
        refine r_iaload (pc := 56) dX12_field_56 g9 g10 ?_
        refine r_iload_n (pc := 57) dX12_field_57 rfl 3 rfl ?_
        refine r_iadd (pc := 58) dX12_field_58 ?_
        obtain ⟨g11, h⟩ := gd h
        obtain ⟨g12, h⟩ := gd h
        refine r_laload (pc := 59) dX12_field_59 g11 g12 ?_
        cases h
        exact r_lret dX12_field_60
      · have h := ie h c
        refine r_aload_n (pc := 34) dX12_field_34 rfl 1 rfl ?_
        refine r_iload_n (pc := 35) dX12_field_35 rfl 0 rfl ?_
        obtain ⟨⟨I13, r14⟩, hc15, h⟩ := ob h
        refine r_callV1 (pc := 36) (av := [vI r5]) (S := []) dX12_field_36 (kX12_noBits hc15) g1 rfl mkX12_373 mwX12_noBits rfl ⟨Nat.le_of_ble_eq_true rfl, Nat.le_of_ble_eq_true rfl⟩ (Nat.le_of_ble_eq_true rfl) ⟨Nat.le_refl _, Nat.le_refl _⟩ (fun b => b) ?_
        refine r_goto (pc := 39) (tgt := 60) dX12_field_39 rfl ?_
        cases h
        exact r_lret dX12_field_60
    · have h := it h c
      refine r_lconst (pc := 17) dX12_field_17 kc_lconst_0 ?_
      cases h
      exact r_lret dX12_field_18
abbrev WX12_setField (G : Gx) (l : Launch) (σ0 : Shp) (X1 : Stt) (rv : Option SV) : Stt → Nat → List (Nat × SV) → List SV → Prop := Wm G l yX12_setField cX12_setField 6 (some .int) (fun _ => True) (rmx 2 43 σ0 X1.1) σ0 (Qmx G σ0 X1 rv)
def fX12_setField (σ : Shp) (I : Nat → Nat → Int32) (J : Nat → Nat → Int64) (R : Nat → Nat → Option Nat) (t : Nat) (x1 : Int32) (x2 : Int32) (x3 : Int64) : Option ((Nat → Nat → Int32) × (Nat → Nat → Int64) × (Int32)) :=
  if (fX12_isBin x1) = 0 then
    some (I, J, (-2 : Int32))
  else
    if (fX12_in x2 (0 : Int32) (7 : Int32)) = 0 then
      some (I, J, (-2 : Int32))
    else
      if kdx σ t = 13 then
      ((R t 3) : Option Nat).bind fun a2 =>
      if kdx σ a2 = 20 then
      if ¬ (x1 < 0 ∨ lnx σ a2 ≤ Int32.toNatClampNeg x1) then
      (fX12_againstCard σ I R t (I a2 (Int32.toNatClampNeg x1))).bind fun r5 =>
      if r5 = 0 then
        ((R t 8) : Option Nat).bind fun a7 =>
        ((R t 6) : Option Nat).bind fun a8 =>
        if kdx σ a8 = 20 then
        if ¬ ((I a2 (Int32.toNatClampNeg x1)) < 0 ∨ lnx σ a8 ≤ Int32.toNatClampNeg (I a2 (Int32.toNatClampNeg x1))) then
        if kdx σ a7 = 21 then
        if ¬ (((I a8 (Int32.toNatClampNeg (I a2 (Int32.toNatClampNeg x1)))) + x2) < 0 ∨ lnx σ a7 ≤ Int32.toNatClampNeg ((I a8 (Int32.toNatClampNeg (I a2 (Int32.toNatClampNeg x1)))) + x2)) then
        let J13 := u2 J a7 (Int32.toNatClampNeg ((I a8 (Int32.toNatClampNeg (I a2 (Int32.toNatClampNeg x1)))) + x2)) (fX12_fitted x2 x3)
        some (I, J13, (1 : Int32))
        else none
        else none
        else none
        else none
      else
        (fX12_no σ I t r5).bind fun (I14, r15) =>
        some (I14, J, r15)
      else none
      else none
      else none
theorem kX12_setField {G : Gx} {l : Launch} {σ : Shp} {I : Nat → Nat → Int32} {J : Nat → Nat → Int64} {D : Nat → Nat → UInt64} {R : Nat → Nat → Option Nat} {t : Nat} {x1 : Int32} {x2 : Int32} {x3 : Int64} {I9 : Nat → Nat → Int32} {J9 : Nat → Nat → Int64} {r9 : Int32} (h : fX12_setField σ I J R t x1 x2 x3 = some (I9, J9, r9)) : Con G l yX12_setField cX12_setField 6 (some .int) 2 43 [vR (some t), vI x1, vI x2, vL x3] (σ, I, J, D, R) (σ, I9, J9, D, R) (some (vI r9)) := by
  unfold fX12_setField at h
  refine Con.mk (by decide +kernel) rfl (Nat.le_of_ble_eq_true rfl) ?_
  show WX12_setField G l σ (σ, I9, J9, D, R) (some (vI r9)) (σ, I, J, D, R) 0 _ []
  refine r_iload_n (pc := 0) dX12_setField_0 rfl 1 rfl ?_
  refine r_callS1 (pc := 1) (av := [vI x1]) (S := []) dX12_setField_1 (kX12_isBin rfl) mkX12_345 mwX12_isBin rfl ⟨Nat.le_of_ble_eq_true rfl, Nat.le_of_ble_eq_true rfl⟩ (Nat.le_of_ble_eq_true rfl) ⟨Nat.le_refl _, Nat.le_refl _⟩ (fun b => b) ?_
  refine r_if_eq (pc := 4) (tgt := 17) dX12_setField_4 rfl (fun c => ?_) (fun c => ?_)
  · have h := it h c
    refine r_bipush (pc := 17) dX12_setField_17 kc_bipush_m2 ?_
    cases h
    exact r_iret dX12_setField_19
  · have h := ie h c
    refine r_iload_n (pc := 7) dX12_setField_7 rfl 2 rfl ?_
    refine r_iconst (pc := 8) dX12_setField_8 kc_iconst_0 ?_
    refine r_bipush (pc := 9) dX12_setField_9 kc_bipush_7 ?_
    refine r_callS1 (pc := 11) (av := [vI x2, vI (0 : Int32), vI (7 : Int32)]) (S := []) dX12_setField_11 (kX12_in rfl) mkX12_322 mwX12_in rfl ⟨Nat.le_of_ble_eq_true rfl, Nat.le_of_ble_eq_true rfl⟩ (Nat.le_of_ble_eq_true rfl) ⟨Nat.le_refl _, Nat.le_refl _⟩ (fun b => b) ?_
    refine r_ifne (pc := 14) (tgt := 20) dX12_setField_14 rfl (fun c => ?_) (fun c => ?_)
    · have h := ie h c
      refine r_aload_n (pc := 20) dX12_setField_20 rfl 0 rfl ?_
      refine r_aload_n (pc := 21) dX12_setField_21 rfl 0 rfl ?_
      obtain ⟨g1, h⟩ := gd h
      obtain ⟨a2, ha2, h⟩ := ob h
      refine r_getS (pc := 22) dX12_setField_22 fgX12_9 rfl g1 ha2 ?_
      refine r_iload_n (pc := 25) dX12_setField_25 rfl 1 rfl ?_
      obtain ⟨g3, h⟩ := gd h
      obtain ⟨g4, h⟩ := gd h
      refine r_iaload (pc := 26) dX12_setField_26 g3 g4 ?_
      obtain ⟨r5, hc6, h⟩ := ob h
      refine r_callV1 (pc := 27) (av := [vI (I a2 (Int32.toNatClampNeg x1))]) (S := []) dX12_setField_27 (kX12_againstCard hc6) g1 rfl mkX12_472 mwX12_againstCard rfl ⟨Nat.le_of_ble_eq_true rfl, Nat.le_of_ble_eq_true rfl⟩ (Nat.le_of_ble_eq_true rfl) ⟨Nat.le_refl _, Nat.le_refl _⟩ (fun b => b) ?_
      refine r_istore (pc := 30) (L' := [(5, vI r5), (0, vR (some t)), (1, vI x1), (2, vI x2), (3, vL x3)]) dX12_setField_30 (by decide) rfl ?_
      refine r_iload (pc := 32) dX12_setField_32 0 rfl ?_
      refine r_if_eq (pc := 34) (tgt := 44) dX12_setField_34 rfl (fun c => ?_) (fun c => ?_)
      · have h := it h c
        refine r_aload_n (pc := 44) dX12_setField_44 rfl 1 rfl ?_
        obtain ⟨a7, ha7, h⟩ := ob h
        refine r_getS (pc := 45) dX12_setField_45 fgX12_26 rfl g1 ha7 ?_
        refine r_aload_n (pc := 48) dX12_setField_48 rfl 1 rfl ?_
        obtain ⟨a8, ha8, h⟩ := ob h
        refine r_getS (pc := 49) dX12_setField_49 fgX12_22 rfl g1 ha8 ?_
        refine r_aload_n (pc := 52) dX12_setField_52 rfl 1 rfl ?_
        refine r_getS (pc := 53) dX12_setField_53 fgX12_9 rfl g1 ha2 ?_
        refine r_iload_n (pc := 56) dX12_setField_56 rfl 2 rfl ?_
        refine r_iaload (pc := 57) dX12_setField_57 g3 g4 ?_
        obtain ⟨g9, h⟩ := gd h
        obtain ⟨g10, h⟩ := gd h
        refine r_iaload (pc := 58) dX12_setField_58 g9 g10 ?_
        refine r_iload_n (pc := 59) dX12_setField_59 rfl 3 rfl ?_
        refine r_iadd (pc := 60) dX12_setField_60 ?_
        refine r_iload_n (pc := 61) dX12_setField_61 rfl 3 rfl ?_
        refine r_lload_n (pc := 62) dX12_setField_62 rfl 4 rfl ?_
        refine r_callS1 (pc := 63) (av := [vI x2, vL x3]) (S := [vI ((I a8 (Int32.toNatClampNeg (I a2 (Int32.toNatClampNeg x1)))) + x2), vR (some a7)]) dX12_setField_63 (kX12_fitted rfl) mkX12_377 mwX12_fitted rfl ⟨Nat.le_of_ble_eq_true rfl, Nat.le_of_ble_eq_true rfl⟩ (Nat.le_of_ble_eq_true rfl) ⟨Nat.le_refl _, Nat.le_refl _⟩ (fun b => b) ?_
        obtain ⟨g11, h⟩ := gd h
        obtain ⟨g12, h⟩ := gd h
        refine r_lastore (pc := 66) dX12_setField_66 g11 g12 ?_
        refine r_iconst (pc := 67) dX12_setField_67 kc_iconst_1 ?_
        cases h
        exact r_iret dX12_setField_68
      · have h := ie h c
        refine r_aload_n (pc := 37) dX12_setField_37 rfl 1 rfl ?_
        refine r_iload (pc := 38) dX12_setField_38 0 rfl ?_
        obtain ⟨⟨I14, r15⟩, hc16, h⟩ := ob h
        refine r_callV1 (pc := 40) (av := [vI r5]) (S := []) dX12_setField_40 (kX12_no hc16) g1 rfl mkX12_308 mwX12_no rfl ⟨Nat.le_of_ble_eq_true rfl, Nat.le_of_ble_eq_true rfl⟩ (Nat.le_of_ble_eq_true rfl) ⟨Nat.le_refl _, Nat.le_refl _⟩ (fun b => b) ?_
        cases h
        exact r_iret dX12_setField_43
    · have h := it h c
      refine r_bipush (pc := 17) dX12_setField_17 kc_bipush_m2 ?_
      cases h
      exact r_iret dX12_setField_19
abbrev WX12_lead (G : Gx) (l : Launch) (σ0 : Shp) (X1 : Stt) (rv : Option SV) : Stt → Nat → List (Nat × SV) → List SV → Prop := Wm G l yX12_lead cX12_lead 6 (some .int) (fun _ => True) (rmx 1 22 σ0 X1.1) σ0 (Qmx G σ0 X1 rv)
def fX12_lead_b83  (σ : Shp) (R : Nat → Nat → Option Nat) (t : Nat) (I : Nat → Nat → Int32) (x2 : Int32) (x3 : Int32) (x4 : Int32) (s0 : Int32) : Option ((Nat → Nat → Int32) × (Int32)) :=
  if s0 = 0 then
    if x2 = 0 then
      if kdx σ t = 13 then
      ((R t 15) : Option Nat).bind fun a17 =>
      ((R t 3) : Option Nat).bind fun a18 =>
      if kdx σ a18 = 20 then
      if ¬ (x3 < 0 ∨ lnx σ a18 ≤ Int32.toNatClampNeg x3) then
      if kdx σ a17 = 23 then
      if ¬ (x4 < 0 ∨ lnx σ a17 ≤ Int32.toNatClampNeg x4) then
      let I23 := u2 I a17 (Int32.toNatClampNeg x4) ((Int32.toInt16 ((Int32.toInt16 (I a18 (Int32.toNatClampNeg x3))).toInt32)).toInt32)
      some (I23, (1 : Int32))
      else none
      else none
      else none
      else none
      else none
    else
      if kdx σ t = 13 then
      ((R t 16) : Option Nat).bind fun a9 =>
      ((R t 3) : Option Nat).bind fun a10 =>
      if kdx σ a10 = 20 then
      if ¬ (x3 < 0 ∨ lnx σ a10 ≤ Int32.toNatClampNeg x3) then
      if kdx σ a9 = 23 then
      if ¬ (x4 < 0 ∨ lnx σ a9 ≤ Int32.toNatClampNeg x4) then
      let I15 := u2 I a9 (Int32.toNatClampNeg x4) ((Int32.toInt16 ((Int32.toInt16 (I a10 (Int32.toNatClampNeg x3))).toInt32)).toInt32)
      some (I15, (1 : Int32))
      else none
      else none
      else none
      else none
      else none
  else
    if kdx σ t = 13 then
    (fX12_no σ I t s0).bind fun (I25, r26) =>
    some (I25, r26)
    else none
theorem wX12_lead_b83 {G : Gx} {l : Launch} {σ : Shp} {I : Nat → Nat → Int32} {J : Nat → Nat → Int64} {D : Nat → Nat → UInt64} {R : Nat → Nat → Option Nat} {t : Nat} {I9 : Nat → Nat → Int32} {r9 : Int32} {x2 : Int32} {x3 : Int32} {x4 : Int32} {s0 : Int32} (h : fX12_lead_b83 σ R t I x2 x3 x4 s0 = some (I9, r9)) : WX12_lead G l σ (σ, I9, J, D, R) (some (vI r9)) (σ, I, J, D, R) 83 [(0, vR (some t)), (2, vI x2), (3, vI x3), (4, vI x4)] [vI s0] := by
  unfold fX12_lead_b83 at h
  refine r_istore (pc := 83) (L' := [(5, vI s0), (0, vR (some t)), (2, vI x2), (3, vI x3), (4, vI x4)]) dX12_lead_83 (by decide) rfl ?_
  refine r_iload (pc := 85) dX12_lead_85 0 rfl ?_
  refine r_if_eq (pc := 87) (tgt := 97) dX12_lead_87 rfl (fun c => ?_) (fun c => ?_)
  · have h := it h c
    refine r_iload_n (pc := 97) dX12_lead_97 rfl 2 rfl ?_
    refine r_ifne (pc := 98) (tgt := 118) dX12_lead_98 rfl (fun c => ?_) (fun c => ?_)
    · have h := ie h c
      refine r_aload_n (pc := 118) dX12_lead_118 rfl 1 rfl ?_
      obtain ⟨g8, h⟩ := gd h
      obtain ⟨a9, ha9, h⟩ := ob h
      refine r_getS (pc := 119) dX12_lead_119 fgX12_50 rfl g8 ha9 ?_
      refine r_iload (pc := 122) dX12_lead_122 4 rfl ?_
      refine r_aload_n (pc := 124) dX12_lead_124 rfl 1 rfl ?_
      obtain ⟨a10, ha10, h⟩ := ob h
      refine r_getS (pc := 125) dX12_lead_125 fgX12_9 rfl g8 ha10 ?_
      refine r_iload_n (pc := 128) dX12_lead_128 rfl 3 rfl ?_
      obtain ⟨g11, h⟩ := gd h
      obtain ⟨g12, h⟩ := gd h
      refine r_iaload (pc := 129) dX12_lead_129 g11 g12 ?_
      refine r_i2s (pc := 130) dX12_lead_130 ?_
      obtain ⟨g13, h⟩ := gd h
      obtain ⟨g14, h⟩ := gd h
      refine r_sastore (pc := 131) dX12_lead_131 g13 g14 ?_
      refine r_iconst (pc := 132) dX12_lead_132 kc_iconst_1 ?_
      cases h
      exact r_iret dX12_lead_133
    · have h := it h c
      refine r_aload_n (pc := 101) dX12_lead_101 rfl 1 rfl ?_
      obtain ⟨g16, h⟩ := gd h
      obtain ⟨a17, ha17, h⟩ := ob h
      refine r_getS (pc := 102) dX12_lead_102 fgX12_47 rfl g16 ha17 ?_
      refine r_iload (pc := 105) dX12_lead_105 4 rfl ?_
      refine r_aload_n (pc := 107) dX12_lead_107 rfl 1 rfl ?_
      obtain ⟨a18, ha18, h⟩ := ob h
      refine r_getS (pc := 108) dX12_lead_108 fgX12_9 rfl g16 ha18 ?_
      refine r_iload_n (pc := 111) dX12_lead_111 rfl 3 rfl ?_
      obtain ⟨g19, h⟩ := gd h
      obtain ⟨g20, h⟩ := gd h
      refine r_iaload (pc := 112) dX12_lead_112 g19 g20 ?_
      refine r_i2s (pc := 113) dX12_lead_113 ?_
      obtain ⟨g21, h⟩ := gd h
      obtain ⟨g22, h⟩ := gd h
      refine r_sastore (pc := 114) dX12_lead_114 g21 g22 ?_
      refine r_goto (pc := 115) (tgt := 132) dX12_lead_115 rfl ?_
      refine r_iconst (pc := 132) dX12_lead_132 kc_iconst_1 ?_
      cases h
      exact r_iret dX12_lead_133
  · have h := ie h c
    refine r_aload_n (pc := 90) dX12_lead_90 rfl 1 rfl ?_
    refine r_iload (pc := 91) dX12_lead_91 0 rfl ?_
    obtain ⟨g24, h⟩ := gd h
    obtain ⟨⟨I25, r26⟩, hc27, h⟩ := ob h
    refine r_callV1 (pc := 93) (av := [vI s0]) (S := []) dX12_lead_93 (kX12_no hc27) g24 rfl mkX12_308 mwX12_no rfl ⟨Nat.le_of_ble_eq_true rfl, Nat.le_of_ble_eq_true rfl⟩ (Nat.le_of_ble_eq_true rfl) ⟨Nat.le_refl _, Nat.le_refl _⟩ (fun b => b) ?_
    cases h
    exact r_iret dX12_lead_96
def fX12_lead (σ : Shp) (I : Nat → Nat → Int32) (R : Nat → Nat → Option Nat) (t : Nat) (x1 : Int32) (x2 : Int32) (x3 : Int32) : Option ((Nat → Nat → Int32) × (Int32)) :=
  if (fX12_isBin x1) = 0 then
    some (I, (-2 : Int32))
  else
    if (fX12_in x2 (0 : Int32) (1 : Int32)) = 0 then
      some (I, (-2 : Int32))
    else
      if (fX12_isBin x3) = 0 then
        some (I, (-2 : Int32))
      else
        if kdx σ t = 13 then
        ((R t 3) : Option Nat).bind fun a2 =>
        if kdx σ a2 = 20 then
        if ¬ (x1 < 0 ∨ lnx σ a2 ≤ Int32.toNatClampNeg x1) then
        let v5 := (I a2 (Int32.toNatClampNeg x1))
        (fX12_isOf σ I R t v5 (17 : Int32)).bind fun r6 =>
        if r6 = 0 then
          fX12_lead_b83 σ R t I x2 x3 v5 (4 : Int32)
        else
          if ¬ (x3 < 0 ∨ lnx σ a2 ≤ Int32.toNatClampNeg x3) then
          if x2 = 0 then
            (fX12_isOf σ I R t (I a2 (Int32.toNatClampNeg x3)) (17 : Int32)).bind fun r31 =>
            if r31 = 0 then
              fX12_lead_b83 σ R t I x2 x3 v5 (4 : Int32)
            else
              if v5 = 0 then
                fX12_lead_b83 σ R t I x2 x3 v5 (1 : Int32)
              else
                fX12_lead_b83 σ R t I x2 x3 v5 (0 : Int32)
          else
            (fX12_isOf σ I R t (I a2 (Int32.toNatClampNeg x3)) (16 : Int32)).bind fun r29 =>
            if r29 = 0 then
              fX12_lead_b83 σ R t I x2 x3 v5 (4 : Int32)
            else
              if v5 = 0 then
                fX12_lead_b83 σ R t I x2 x3 v5 (1 : Int32)
              else
                fX12_lead_b83 σ R t I x2 x3 v5 (0 : Int32)
          else none
        else none
        else none
        else none
theorem kX12_lead {G : Gx} {l : Launch} {σ : Shp} {I : Nat → Nat → Int32} {J : Nat → Nat → Int64} {D : Nat → Nat → UInt64} {R : Nat → Nat → Option Nat} {t : Nat} {x1 : Int32} {x2 : Int32} {x3 : Int32} {I9 : Nat → Nat → Int32} {r9 : Int32} (h : fX12_lead σ I R t x1 x2 x3 = some (I9, r9)) : Con G l yX12_lead cX12_lead 6 (some .int) 1 22 [vR (some t), vI x1, vI x2, vI x3] (σ, I, J, D, R) (σ, I9, J, D, R) (some (vI r9)) := by
  unfold fX12_lead at h
  refine Con.mk (by decide +kernel) rfl (Nat.le_of_ble_eq_true rfl) ?_
  show WX12_lead G l σ (σ, I9, J, D, R) (some (vI r9)) (σ, I, J, D, R) 0 _ []
  refine r_iload_n (pc := 0) dX12_lead_0 rfl 1 rfl ?_
  refine r_callS1 (pc := 1) (av := [vI x1]) (S := []) dX12_lead_1 (kX12_isBin rfl) mkX12_345 mwX12_isBin rfl ⟨Nat.le_of_ble_eq_true rfl, Nat.le_of_ble_eq_true rfl⟩ (Nat.le_of_ble_eq_true rfl) ⟨Nat.le_refl _, Nat.le_refl _⟩ (fun b => b) ?_
  refine r_if_eq (pc := 4) (tgt := 23) dX12_lead_4 rfl (fun c => ?_) (fun c => ?_)
  · have h := it h c
    refine r_bipush (pc := 23) dX12_lead_23 kc_bipush_m2 ?_
    cases h
    exact r_iret dX12_lead_25
  · have h := ie h c
    refine r_iload_n (pc := 7) dX12_lead_7 rfl 2 rfl ?_
    refine r_iconst (pc := 8) dX12_lead_8 kc_iconst_0 ?_
    refine r_iconst (pc := 9) dX12_lead_9 kc_iconst_1 ?_
    refine r_callS1 (pc := 10) (av := [vI x2, vI (0 : Int32), vI (1 : Int32)]) (S := []) dX12_lead_10 (kX12_in rfl) mkX12_322 mwX12_in rfl ⟨Nat.le_of_ble_eq_true rfl, Nat.le_of_ble_eq_true rfl⟩ (Nat.le_of_ble_eq_true rfl) ⟨Nat.le_refl _, Nat.le_refl _⟩ (fun b => b) ?_
    refine r_if_eq (pc := 13) (tgt := 23) dX12_lead_13 rfl (fun c => ?_) (fun c => ?_)
    · have h := it h c
      refine r_bipush (pc := 23) dX12_lead_23 kc_bipush_m2 ?_
      cases h
      exact r_iret dX12_lead_25
    · have h := ie h c
      refine r_iload_n (pc := 16) dX12_lead_16 rfl 3 rfl ?_
      refine r_callS1 (pc := 17) (av := [vI x3]) (S := []) dX12_lead_17 (kX12_isBin rfl) mkX12_345 mwX12_isBin rfl ⟨Nat.le_of_ble_eq_true rfl, Nat.le_of_ble_eq_true rfl⟩ (Nat.le_of_ble_eq_true rfl) ⟨Nat.le_refl _, Nat.le_refl _⟩ (fun b => b) ?_
      refine r_ifne (pc := 20) (tgt := 26) dX12_lead_20 rfl (fun c => ?_) (fun c => ?_)
      · have h := ie h c
        refine r_aload_n (pc := 26) dX12_lead_26 rfl 0 rfl ?_
        obtain ⟨g1, h⟩ := gd h
        obtain ⟨a2, ha2, h⟩ := ob h
        refine r_getS (pc := 27) dX12_lead_27 fgX12_9 rfl g1 ha2 ?_
        refine r_iload_n (pc := 30) dX12_lead_30 rfl 1 rfl ?_
        obtain ⟨g3, h⟩ := gd h
        obtain ⟨g4, h⟩ := gd h
        refine r_iaload (pc := 31) dX12_lead_31 g3 g4 ?_
        refine r_istore (pc := 32) (L' := [(4, vI (I a2 (Int32.toNatClampNeg x1))), (0, vR (some t)), (1, vI x1), (2, vI x2), (3, vI x3)]) dX12_lead_32 (by decide) rfl ?_
        refine r_aload_n (pc := 34) dX12_lead_34 rfl 1 rfl ?_
        refine r_iload (pc := 35) dX12_lead_35 0 rfl ?_
        refine r_bipush (pc := 37) dX12_lead_37 kc_bipush_17 ?_
        obtain ⟨r6, hc7, h⟩ := ob h
        refine r_callV1 (pc := 39) (av := [vI (I a2 (Int32.toNatClampNeg x1)), vI (17 : Int32)]) (S := []) dX12_lead_39 (kX12_isOf hc7) g1 rfl mkX12_363 mwX12_isOf rfl ⟨Nat.le_of_ble_eq_true rfl, Nat.le_of_ble_eq_true rfl⟩ (Nat.le_of_ble_eq_true rfl) ⟨Nat.le_refl _, Nat.le_refl _⟩ (fun b => b) ?_
        refine r_if_eq (pc := 42) (tgt := 69) dX12_lead_42 rfl (fun c => ?_) (fun c => ?_)
        · have h := it h c
          refine r_iconst (pc := 69) dX12_lead_69 kc_iconst_4 ?_
          refine r_goto (pc := 70) (tgt := 83) dX12_lead_70 rfl ?_
          refine r_sub [1, 3, 4, 0] rfl ?_
          exact wX12_lead_b83 h
        · have h := ie h c
          refine r_aload_n (pc := 45) dX12_lead_45 rfl 1 rfl ?_
          refine r_aload_n (pc := 46) dX12_lead_46 rfl 1 rfl ?_
          refine r_getS (pc := 47) dX12_lead_47 fgX12_9 rfl g1 ha2 ?_
          refine r_iload_n (pc := 50) dX12_lead_50 rfl 4 rfl ?_
          obtain ⟨g28, h⟩ := gd h
          refine r_iaload (pc := 51) dX12_lead_51 g3 g28 ?_
          refine r_iload_n (pc := 52) dX12_lead_52 rfl 3 rfl ?_
          refine r_ifne (pc := 53) (tgt := 61) dX12_lead_53 rfl (fun c => ?_) (fun c => ?_)
          · have h := ie h c
            refine r_bipush (pc := 61) dX12_lead_61 kc_bipush_16 ?_
            obtain ⟨r29, hc30, h⟩ := ob h
            refine r_callV1 (pc := 63) (av := [vI (I a2 (Int32.toNatClampNeg x3)), vI (16 : Int32)]) (S := []) dX12_lead_63 (kX12_isOf hc30) g1 rfl mkX12_363 mwX12_isOf rfl ⟨Nat.le_of_ble_eq_true rfl, Nat.le_of_ble_eq_true rfl⟩ (Nat.le_of_ble_eq_true rfl) ⟨Nat.le_refl _, Nat.le_refl _⟩ (fun b => b) ?_
            refine r_ifne (pc := 66) (tgt := 73) dX12_lead_66 rfl (fun c => ?_) (fun c => ?_)
            · have h := ie h c
              refine r_iload (pc := 73) dX12_lead_73 0 rfl ?_
              refine r_ifne (pc := 75) (tgt := 82) dX12_lead_75 rfl (fun c => ?_) (fun c => ?_)
              · have h := ie h c
                refine r_iconst (pc := 82) dX12_lead_82 kc_iconst_0 ?_
                refine r_sub [1, 3, 4, 0] rfl ?_
                exact wX12_lead_b83 h
              · have h := it h c
                refine r_iconst (pc := 78) dX12_lead_78 kc_iconst_1 ?_
                refine r_goto (pc := 79) (tgt := 83) dX12_lead_79 rfl ?_
                refine r_sub [1, 3, 4, 0] rfl ?_
                exact wX12_lead_b83 h
            · have h := it h c
              refine r_iconst (pc := 69) dX12_lead_69 kc_iconst_4 ?_
              refine r_goto (pc := 70) (tgt := 83) dX12_lead_70 rfl ?_
              refine r_sub [1, 3, 4, 0] rfl ?_
              exact wX12_lead_b83 h
          · have h := it h c
            refine r_bipush (pc := 56) dX12_lead_56 kc_bipush_17 ?_
            refine r_goto (pc := 58) (tgt := 63) dX12_lead_58 rfl ?_
            obtain ⟨r31, hc32, h⟩ := ob h
            refine r_callV1 (pc := 63) (av := [vI (I a2 (Int32.toNatClampNeg x3)), vI (17 : Int32)]) (S := []) dX12_lead_63 (kX12_isOf hc32) g1 rfl mkX12_363 mwX12_isOf rfl ⟨Nat.le_of_ble_eq_true rfl, Nat.le_of_ble_eq_true rfl⟩ (Nat.le_of_ble_eq_true rfl) ⟨Nat.le_refl _, Nat.le_refl _⟩ (fun b => b) ?_
            refine r_ifne (pc := 66) (tgt := 73) dX12_lead_66 rfl (fun c => ?_) (fun c => ?_)
            · have h := ie h c
              refine r_iload (pc := 73) dX12_lead_73 0 rfl ?_
              refine r_ifne (pc := 75) (tgt := 82) dX12_lead_75 rfl (fun c => ?_) (fun c => ?_)
              · have h := ie h c
                refine r_iconst (pc := 82) dX12_lead_82 kc_iconst_0 ?_
                refine r_sub [1, 3, 4, 0] rfl ?_
                exact wX12_lead_b83 h
              · have h := it h c
                refine r_iconst (pc := 78) dX12_lead_78 kc_iconst_1 ?_
                refine r_goto (pc := 79) (tgt := 83) dX12_lead_79 rfl ?_
                refine r_sub [1, 3, 4, 0] rfl ?_
                exact wX12_lead_b83 h
            · have h := it h c
              refine r_iconst (pc := 69) dX12_lead_69 kc_iconst_4 ?_
              refine r_goto (pc := 70) (tgt := 83) dX12_lead_70 rfl ?_
              refine r_sub [1, 3, 4, 0] rfl ?_
              exact wX12_lead_b83 h
      · have h := it h c
        refine r_bipush (pc := 23) dX12_lead_23 kc_bipush_m2 ?_
        cases h
        exact r_iret dX12_lead_25
abbrev WX12_follow (G : Gx) (l : Launch) (σ0 : Shp) (X1 : Stt) (rv : Option SV) : Stt → Nat → List (Nat × SV) → List SV → Prop := Wm G l yX12_follow cX12_follow 6 (some .int) (fun _ => True) (rmx 2 43 σ0 X1.1) σ0 (Qmx G σ0 X1 rv)
def fX12_follow (σ : Shp) (I : Nat → Nat → Int32) (R : Nat → Nat → Option Nat) (t : Nat) (x1 : Int32) (x2 : Int32) (x3 : Int32) : Option ((Nat → Nat → Int32) × (Int32)) :=
  if (fX12_isBin x1) = 0 then
    some (I, (-2 : Int32))
  else
    if (fX12_isBin x2) = 0 then
      some (I, (-2 : Int32))
    else
      if (fX12_in x3 (0 : Int32) (1 : Int32)) = 0 then
        some (I, (-2 : Int32))
      else
        if kdx σ t = 13 then
        ((R t 3) : Option Nat).bind fun a2 =>
        if kdx σ a2 = 20 then
        if ¬ (x2 < 0 ∨ lnx σ a2 ≤ Int32.toNatClampNeg x2) then
        let v5 := (I a2 (Int32.toNatClampNeg x2))
        (fX12_againstCard σ I R t v5).bind fun r6 =>
        if r6 = 0 then
          if x3 = 0 then
            ((R t 15) : Option Nat).bind fun a13 =>
            if kdx σ a13 = 23 then
            if ¬ (v5 < 0 ∨ lnx σ a13 ≤ Int32.toNatClampNeg v5) then
            if ¬ (x1 < 0 ∨ lnx σ a2 ≤ Int32.toNatClampNeg x1) then
            let I17 := u2 I a2 (Int32.toNatClampNeg x1) (I a13 (Int32.toNatClampNeg v5))
            some (I17, (1 : Int32))
            else none
            else none
            else none
          else
            ((R t 16) : Option Nat).bind fun a8 =>
            if kdx σ a8 = 23 then
            if ¬ (v5 < 0 ∨ lnx σ a8 ≤ Int32.toNatClampNeg v5) then
            if ¬ (x1 < 0 ∨ lnx σ a2 ≤ Int32.toNatClampNeg x1) then
            let I12 := u2 I a2 (Int32.toNatClampNeg x1) (I a8 (Int32.toNatClampNeg v5))
            some (I12, (1 : Int32))
            else none
            else none
            else none
        else
          (fX12_no σ I t r6).bind fun (I18, r19) =>
          some (I18, r19)
        else none
        else none
        else none
theorem kX12_follow {G : Gx} {l : Launch} {σ : Shp} {I : Nat → Nat → Int32} {J : Nat → Nat → Int64} {D : Nat → Nat → UInt64} {R : Nat → Nat → Option Nat} {t : Nat} {x1 : Int32} {x2 : Int32} {x3 : Int32} {I9 : Nat → Nat → Int32} {r9 : Int32} (h : fX12_follow σ I R t x1 x2 x3 = some (I9, r9)) : Con G l yX12_follow cX12_follow 6 (some .int) 2 43 [vR (some t), vI x1, vI x2, vI x3] (σ, I, J, D, R) (σ, I9, J, D, R) (some (vI r9)) := by
  unfold fX12_follow at h
  refine Con.mk (by decide +kernel) rfl (Nat.le_of_ble_eq_true rfl) ?_
  show WX12_follow G l σ (σ, I9, J, D, R) (some (vI r9)) (σ, I, J, D, R) 0 _ []
  refine r_iload_n (pc := 0) dX12_follow_0 rfl 1 rfl ?_
  refine r_callS1 (pc := 1) (av := [vI x1]) (S := []) dX12_follow_1 (kX12_isBin rfl) mkX12_345 mwX12_isBin rfl ⟨Nat.le_of_ble_eq_true rfl, Nat.le_of_ble_eq_true rfl⟩ (Nat.le_of_ble_eq_true rfl) ⟨Nat.le_refl _, Nat.le_refl _⟩ (fun b => b) ?_
  refine r_if_eq (pc := 4) (tgt := 23) dX12_follow_4 rfl (fun c => ?_) (fun c => ?_)
  · have h := it h c
    refine r_bipush (pc := 23) dX12_follow_23 kc_bipush_m2 ?_
    cases h
    exact r_iret dX12_follow_25
  · have h := ie h c
    refine r_iload_n (pc := 7) dX12_follow_7 rfl 2 rfl ?_
    refine r_callS1 (pc := 8) (av := [vI x2]) (S := []) dX12_follow_8 (kX12_isBin rfl) mkX12_345 mwX12_isBin rfl ⟨Nat.le_of_ble_eq_true rfl, Nat.le_of_ble_eq_true rfl⟩ (Nat.le_of_ble_eq_true rfl) ⟨Nat.le_refl _, Nat.le_refl _⟩ (fun b => b) ?_
    refine r_if_eq (pc := 11) (tgt := 23) dX12_follow_11 rfl (fun c => ?_) (fun c => ?_)
    · have h := it h c
      refine r_bipush (pc := 23) dX12_follow_23 kc_bipush_m2 ?_
      cases h
      exact r_iret dX12_follow_25
    · have h := ie h c
      refine r_iload_n (pc := 14) dX12_follow_14 rfl 3 rfl ?_
      refine r_iconst (pc := 15) dX12_follow_15 kc_iconst_0 ?_
      refine r_iconst (pc := 16) dX12_follow_16 kc_iconst_1 ?_
      refine r_callS1 (pc := 17) (av := [vI x3, vI (0 : Int32), vI (1 : Int32)]) (S := []) dX12_follow_17 (kX12_in rfl) mkX12_322 mwX12_in rfl ⟨Nat.le_of_ble_eq_true rfl, Nat.le_of_ble_eq_true rfl⟩ (Nat.le_of_ble_eq_true rfl) ⟨Nat.le_refl _, Nat.le_refl _⟩ (fun b => b) ?_
      refine r_ifne (pc := 20) (tgt := 26) dX12_follow_20 rfl (fun c => ?_) (fun c => ?_)
      · have h := ie h c
        refine r_aload_n (pc := 26) dX12_follow_26 rfl 0 rfl ?_
        obtain ⟨g1, h⟩ := gd h
        obtain ⟨a2, ha2, h⟩ := ob h
        refine r_getS (pc := 27) dX12_follow_27 fgX12_9 rfl g1 ha2 ?_
        refine r_iload_n (pc := 30) dX12_follow_30 rfl 2 rfl ?_
        obtain ⟨g3, h⟩ := gd h
        obtain ⟨g4, h⟩ := gd h
        refine r_iaload (pc := 31) dX12_follow_31 g3 g4 ?_
        refine r_istore (pc := 32) (L' := [(4, vI (I a2 (Int32.toNatClampNeg x2))), (0, vR (some t)), (1, vI x1), (2, vI x2), (3, vI x3)]) dX12_follow_32 (by decide) rfl ?_
        refine r_aload_n (pc := 34) dX12_follow_34 rfl 1 rfl ?_
        refine r_iload (pc := 35) dX12_follow_35 0 rfl ?_
        obtain ⟨r6, hc7, h⟩ := ob h
        refine r_callV1 (pc := 37) (av := [vI (I a2 (Int32.toNatClampNeg x2))]) (S := []) dX12_follow_37 (kX12_againstCard hc7) g1 rfl mkX12_472 mwX12_againstCard rfl ⟨Nat.le_of_ble_eq_true rfl, Nat.le_of_ble_eq_true rfl⟩ (Nat.le_of_ble_eq_true rfl) ⟨Nat.le_refl _, Nat.le_refl _⟩ (fun b => b) ?_
        refine r_istore (pc := 40) (L' := [(5, vI r6), (4, vI (I a2 (Int32.toNatClampNeg x2))), (0, vR (some t)), (1, vI x1), (2, vI x2), (3, vI x3)]) dX12_follow_40 (by decide) rfl ?_
        refine r_iload (pc := 42) dX12_follow_42 0 rfl ?_
        refine r_if_eq (pc := 44) (tgt := 54) dX12_follow_44 rfl (fun c => ?_) (fun c => ?_)
        · have h := it h c
          refine r_aload_n (pc := 54) dX12_follow_54 rfl 2 rfl ?_
          refine r_getS (pc := 55) dX12_follow_55 fgX12_9 rfl g1 ha2 ?_
          refine r_iload_n (pc := 58) dX12_follow_58 rfl 3 rfl ?_
          refine r_iload_n (pc := 59) dX12_follow_59 rfl 5 rfl ?_
          refine r_ifne (pc := 60) (tgt := 73) dX12_follow_60 rfl (fun c => ?_) (fun c => ?_)
          · have h := ie h c
            refine r_aload_n (pc := 73) dX12_follow_73 rfl 2 rfl ?_
            obtain ⟨a8, ha8, h⟩ := ob h
            refine r_getS (pc := 74) dX12_follow_74 fgX12_50 rfl g1 ha8 ?_
            refine r_iload (pc := 77) dX12_follow_77 1 rfl ?_
            obtain ⟨g9, h⟩ := gd h
            obtain ⟨g10, h⟩ := gd h
            refine r_saload (pc := 79) dX12_follow_79 g9 g10 ?_
            obtain ⟨g11, h⟩ := gd h
            refine r_iastore (pc := 80) dX12_follow_80 g3 g11 ?_
            refine r_iconst (pc := 81) dX12_follow_81 kc_iconst_1 ?_
            cases h
            exact r_iret dX12_follow_82
          · have h := it h c
            refine r_aload_n (pc := 63) dX12_follow_63 rfl 2 rfl ?_
            obtain ⟨a13, ha13, h⟩ := ob h
            refine r_getS (pc := 64) dX12_follow_64 fgX12_47 rfl g1 ha13 ?_
            refine r_iload (pc := 67) dX12_follow_67 1 rfl ?_
            obtain ⟨g14, h⟩ := gd h
            obtain ⟨g15, h⟩ := gd h
            refine r_saload (pc := 69) dX12_follow_69 g14 g15 ?_
            refine r_goto (pc := 70) (tgt := 80) dX12_follow_70 rfl ?_
            obtain ⟨g16, h⟩ := gd h
            refine r_iastore (pc := 80) dX12_follow_80 g3 g16 ?_
            refine r_iconst (pc := 81) dX12_follow_81 kc_iconst_1 ?_
            cases h
            exact r_iret dX12_follow_82
        · have h := ie h c
          refine r_aload_n (pc := 47) dX12_follow_47 rfl 2 rfl ?_
          refine r_iload (pc := 48) dX12_follow_48 0 rfl ?_
          obtain ⟨⟨I18, r19⟩, hc20, h⟩ := ob h
          refine r_callV1 (pc := 50) (av := [vI r6]) (S := []) dX12_follow_50 (kX12_no hc20) g1 rfl mkX12_308 mwX12_no rfl ⟨Nat.le_of_ble_eq_true rfl, Nat.le_of_ble_eq_true rfl⟩ (Nat.le_of_ble_eq_true rfl) ⟨Nat.le_refl _, Nat.le_refl _⟩ (fun b => b) ?_
          cases h
          exact r_iret dX12_follow_53
      · have h := it h c
        refine r_bipush (pc := 23) dX12_follow_23 kc_bipush_m2 ?_
        cases h
        exact r_iret dX12_follow_25
abbrev WX12_led (G : Gx) (l : Launch) (σ0 : Shp) (X1 : Stt) (rv : Option SV) : Stt → Nat → List (Nat × SV) → List SV → Prop := Wm G l yX12_led cX12_led 7 (some .int) (fun _ => True) (rmx 2 43 σ0 X1.1) σ0 (Qmx G σ0 X1 rv)
def fX12_led_b113  (σ : Shp) (R : Nat → Nat → Option Nat) (t : Nat) (I : Nat → Nat → Int32) (x2 : Int32) (x4 : Int32) (x5 : Int32) (x6 : Int32) : Option ((Nat → Nat → Int32) × (Int32)) :=
  if x2 = 0 then
    some (I, x4)
  else
    if x2 = (1 : Int32) then
      if x6 = 0 then
        some (I, (-1 : Int32))
      else
        if kdx σ t = 13 then
        ((R t 11) : Option Nat).bind fun a14 =>
        if kdx σ a14 = 20 then
        if ¬ (x6 < 0 ∨ lnx σ a14 ≤ Int32.toNatClampNeg x6) then
        some (I, (I a14 (Int32.toNatClampNeg x6)))
        else none
        else none
        else none
    else
      if kdx σ t = 13 then
      ((R t 11) : Option Nat).bind fun a10 =>
      if kdx σ a10 = 20 then
      if ¬ (x5 < 0 ∨ lnx σ a10 ≤ Int32.toNatClampNeg x5) then
      some (I, (I a10 (Int32.toNatClampNeg x5)))
      else none
      else none
      else none
theorem wX12_led_b113 {G : Gx} {l : Launch} {σ : Shp} {I : Nat → Nat → Int32} {J : Nat → Nat → Int64} {D : Nat → Nat → UInt64} {R : Nat → Nat → Option Nat} {t : Nat} {I9 : Nat → Nat → Int32} {r9 : Int32} {x2 : Int32} {x4 : Int32} {x5 : Int32} {x6 : Int32} (h : fX12_led_b113 σ R t I x2 x4 x5 x6 = some (I9, r9)) : WX12_led G l σ (σ, I9, J, D, R) (some (vI r9)) (σ, I, J, D, R) 113 [(0, vR (some t)), (2, vI x2), (4, vI x4), (5, vI x5), (6, vI x6)] [] := by
  unfold fX12_led_b113 at h
  refine r_iload_n (pc := 113) dX12_led_113 rfl 1 rfl ?_
  refine r_ifne (pc := 114) (tgt := 122) dX12_led_114 rfl (fun c => ?_) (fun c => ?_)
  · have h := ie h c
    refine r_iload_n (pc := 122) dX12_led_122 rfl 1 rfl ?_
    refine r_iconst (pc := 123) dX12_led_123 kc_iconst_1 ?_
    refine r_icmp_ne (pc := 124) (tgt := 146) dX12_led_124 rfl (fun c => ?_) (fun c => ?_)
    · have h := ie h c
      refine r_aload_n (pc := 146) dX12_led_146 rfl 0 rfl ?_
      obtain ⟨g9, h⟩ := gd h
      obtain ⟨a10, ha10, h⟩ := ob h
      refine r_getS (pc := 147) dX12_led_147 fgX12_35 rfl g9 ha10 ?_
      refine r_iload (pc := 150) dX12_led_150 3 rfl ?_
      obtain ⟨g11, h⟩ := gd h
      obtain ⟨g12, h⟩ := gd h
      refine r_iaload (pc := 152) dX12_led_152 g11 g12 ?_
      cases h
      exact r_iret dX12_led_153
    · have h := it h c
      refine r_iload (pc := 127) dX12_led_127 4 rfl ?_
      refine r_ifne (pc := 129) (tgt := 136) dX12_led_129 rfl (fun c => ?_) (fun c => ?_)
      · have h := ie h c
        refine r_aload_n (pc := 136) dX12_led_136 rfl 0 rfl ?_
        obtain ⟨g13, h⟩ := gd h
        obtain ⟨a14, ha14, h⟩ := ob h
        refine r_getS (pc := 137) dX12_led_137 fgX12_35 rfl g13 ha14 ?_
        refine r_iload (pc := 140) dX12_led_140 4 rfl ?_
        obtain ⟨g15, h⟩ := gd h
        obtain ⟨g16, h⟩ := gd h
        refine r_iaload (pc := 142) dX12_led_142 g15 g16 ?_
        refine r_goto (pc := 143) (tgt := 153) dX12_led_143 rfl ?_
        cases h
        exact r_iret dX12_led_153
      · have h := it h c
        refine r_iconst (pc := 132) dX12_led_132 kc_iconst_m1 ?_
        refine r_goto (pc := 133) (tgt := 153) dX12_led_133 rfl ?_
        cases h
        exact r_iret dX12_led_153
  · have h := it h c
    refine r_iload (pc := 117) dX12_led_117 2 rfl ?_
    refine r_goto (pc := 119) (tgt := 153) dX12_led_119 rfl ?_
    cases h
    exact r_iret dX12_led_153
def fX12_led_l64  (σ : Shp) (R : Nat → Nat → Option Nat) (t : Nat) : Nat → (Nat → Nat → Int32) → (Int32) → (Int32) → (Int32) → (Int32) → Option ((Nat → Nat → Int32) × (Int32))
  | 0, _, _, _, _, _ => none
  | n + 1, I, x2, x4, x5, x6 =>
    if x6 = 0 then
      fX12_led_b113 σ R t I x2 x4 x5 x6
    else
      if kdx σ t = 13 then
      ((R t 31) : Option Nat).bind fun a18 =>
      if kdx σ a18 = 20 then
      if ¬ (x6 < 0 ∨ lnx σ a18 ≤ Int32.toNatClampNeg x6) then
      if (I a18 (Int32.toNatClampNeg x6)) = (I t 32) then
        fX12_led_b113 σ R t I x2 x4 x5 x6
      else
        let I21 := u2 I a18 (Int32.toNatClampNeg x6) (I t 32)
        let v22 := x4 + (1 : Int32)
        ((R t 15) : Option Nat).bind fun a23 =>
        if kdx σ a23 = 23 then
        if ¬ (x6 < 0 ∨ lnx σ a23 ≤ Int32.toNatClampNeg x6) then
        let v26 := (I21 a23 (Int32.toNatClampNeg x6))
        fX12_led_l64 σ R t n I21 x2 v22 x6 v26
        else none
        else none
      else none
      else none
      else none
theorem wX12_led_l64 {G : Gx} {l : Launch} {σ : Shp} {J : Nat → Nat → Int64} {D : Nat → Nat → UInt64} {R : Nat → Nat → Option Nat} {t : Nat} {I9 : Nat → Nat → Int32} {r9 : Int32} : ∀ (n : Nat) (I : Nat → Nat → Int32) (x2 : Int32) (x4 : Int32) (x5 : Int32) (x6 : Int32), fX12_led_l64 σ R t n I x2 x4 x5 x6 = some (I9, r9) → WX12_led G l σ (σ, I9, J, D, R) (some (vI r9)) (σ, I, J, D, R) 64 [(0, vR (some t)), (2, vI x2), (4, vI x4), (5, vI x5), (6, vI x6)] [] := by
  intro n
  induction n with
  | zero =>
    intro I x2 x4 x5 x6 h
    have h : none = some _ := h
    cases h
  | succ n ih =>
    intro I x2 x4 x5 x6 h
    rw [fX12_led_l64] at h
    refine r_iload (pc := 64) dX12_led_64 4 rfl ?_
    refine r_if_eq (pc := 66) (tgt := 113) dX12_led_66 rfl (fun c => ?_) (fun c => ?_)
    · have h := it h c
      refine r_sub [0, 1, 2, 3, 4] rfl ?_
      exact wX12_led_b113 h
    · have h := ie h c
      refine r_aload_n (pc := 69) dX12_led_69 rfl 0 rfl ?_
      obtain ⟨g17, h⟩ := gd h
      obtain ⟨a18, ha18, h⟩ := ob h
      refine r_getS (pc := 70) dX12_led_70 fgX12_71 rfl g17 ha18 ?_
      refine r_iload (pc := 73) dX12_led_73 4 rfl ?_
      obtain ⟨g19, h⟩ := gd h
      obtain ⟨g20, h⟩ := gd h
      refine r_iaload (pc := 75) dX12_led_75 g19 g20 ?_
      refine r_aload_n (pc := 76) dX12_led_76 rfl 0 rfl ?_
      refine r_getI (pc := 77) dX12_led_77 fgX12_475 rfl g17 ?_
      refine r_icmp_eq (pc := 80) (tgt := 113) dX12_led_80 rfl (fun c => ?_) (fun c => ?_)
      · have h := it h c
        refine r_sub [0, 1, 2, 3, 4] rfl ?_
        exact wX12_led_b113 h
      · have h := ie h c
        refine r_aload_n (pc := 83) dX12_led_83 rfl 0 rfl ?_
        refine r_getS (pc := 84) dX12_led_84 fgX12_71 rfl g17 ha18 ?_
        refine r_iload (pc := 87) dX12_led_87 4 rfl ?_
        refine r_aload_n (pc := 89) dX12_led_89 rfl 0 rfl ?_
        refine r_getI (pc := 90) dX12_led_90 fgX12_475 rfl g17 ?_
        refine r_iastore (pc := 93) dX12_led_93 g19 g20 ?_
        refine r_iinc (pc := 94) (v := (x4 + (1 : Int32))) (L' := [(4, vI (x4 + (1 : Int32))), (0, vR (some t)), (2, vI x2), (5, vI x5), (6, vI x6)]) dX12_led_94 2 rfl (kc_inc_1 _) (by decide) rfl ?_
        refine r_iload (pc := 97) dX12_led_97 4 rfl ?_
        refine r_istore (pc := 99) (L' := [(5, vI x6), (4, vI (x4 + (1 : Int32))), (0, vR (some t)), (2, vI x2), (6, vI x6)]) dX12_led_99 (by decide) rfl ?_
        refine r_aload_n (pc := 101) dX12_led_101 rfl 2 rfl ?_
        obtain ⟨a23, ha23, h⟩ := ob h
        refine r_getS (pc := 102) dX12_led_102 fgX12_47 rfl g17 ha23 ?_
        refine r_iload (pc := 105) dX12_led_105 4 rfl ?_
        obtain ⟨g24, h⟩ := gd h
        obtain ⟨g25, h⟩ := gd h
        refine r_saload (pc := 107) dX12_led_107 g24 g25 ?_
        refine r_istore (pc := 108) (L' := [(6, vI ((u2 I a18 (Int32.toNatClampNeg x6) (I t 32)) a23 (Int32.toNatClampNeg x6))), (5, vI x6), (4, vI (x4 + (1 : Int32))), (0, vR (some t)), (2, vI x2)]) dX12_led_108 (by decide) rfl ?_
        refine r_goto (pc := 110) (tgt := 64) dX12_led_110 rfl ?_
        refine r_sub [3, 4, 2, 1, 0] rfl ?_
        exact ih _ _ _ _ _ h
def fX12_led (σ : Shp) (I : Nat → Nat → Int32) (R : Nat → Nat → Option Nat) (t : Nat) (x1 : Int32) (x2 : Int32) : Option ((Nat → Nat → Int32) × (Int32)) :=
  if (fX12_isBin x1) = 0 then
    some (I, (-2 : Int32))
  else
    if (fX12_in x2 (0 : Int32) (2 : Int32)) = 0 then
      some (I, (-2 : Int32))
    else
      if kdx σ t = 13 then
      ((R t 3) : Option Nat).bind fun a2 =>
      if kdx σ a2 = 20 then
      if ¬ (x1 < 0 ∨ lnx σ a2 ≤ Int32.toNatClampNeg x1) then
      (fX12_againstCard σ I R t (I a2 (Int32.toNatClampNeg x1))).bind fun r5 =>
      if r5 = 0 then
        let I7 := u2 I t 32 ((I t 32) + (1 : Int32))
        let v8 := (I7 a2 (Int32.toNatClampNeg x1))
        fX12_led_l64 σ R t FUx I7 x2 (0 : Int32) (0 : Int32) v8
      else
        (fX12_no σ I t r5).bind fun (I27, r28) =>
        some (I27, r28)
      else none
      else none
      else none
theorem kX12_led {G : Gx} {l : Launch} {σ : Shp} {I : Nat → Nat → Int32} {J : Nat → Nat → Int64} {D : Nat → Nat → UInt64} {R : Nat → Nat → Option Nat} {t : Nat} {x1 : Int32} {x2 : Int32} {I9 : Nat → Nat → Int32} {r9 : Int32} (h : fX12_led σ I R t x1 x2 = some (I9, r9)) : Con G l yX12_led cX12_led 7 (some .int) 2 43 [vR (some t), vI x1, vI x2] (σ, I, J, D, R) (σ, I9, J, D, R) (some (vI r9)) := by
  unfold fX12_led at h
  refine Con.mk (by decide +kernel) rfl (Nat.le_of_ble_eq_true rfl) ?_
  show WX12_led G l σ (σ, I9, J, D, R) (some (vI r9)) (σ, I, J, D, R) 0 _ []
  refine r_iload_n (pc := 0) dX12_led_0 rfl 1 rfl ?_
  refine r_callS1 (pc := 1) (av := [vI x1]) (S := []) dX12_led_1 (kX12_isBin rfl) mkX12_345 mwX12_isBin rfl ⟨Nat.le_of_ble_eq_true rfl, Nat.le_of_ble_eq_true rfl⟩ (Nat.le_of_ble_eq_true rfl) ⟨Nat.le_refl _, Nat.le_refl _⟩ (fun b => b) ?_
  refine r_if_eq (pc := 4) (tgt := 16) dX12_led_4 rfl (fun c => ?_) (fun c => ?_)
  · have h := it h c
    refine r_bipush (pc := 16) dX12_led_16 kc_bipush_m2 ?_
    cases h
    exact r_iret dX12_led_18
  · have h := ie h c
    refine r_iload_n (pc := 7) dX12_led_7 rfl 2 rfl ?_
    refine r_iconst (pc := 8) dX12_led_8 kc_iconst_0 ?_
    refine r_iconst (pc := 9) dX12_led_9 kc_iconst_2 ?_
    refine r_callS1 (pc := 10) (av := [vI x2, vI (0 : Int32), vI (2 : Int32)]) (S := []) dX12_led_10 (kX12_in rfl) mkX12_322 mwX12_in rfl ⟨Nat.le_of_ble_eq_true rfl, Nat.le_of_ble_eq_true rfl⟩ (Nat.le_of_ble_eq_true rfl) ⟨Nat.le_refl _, Nat.le_refl _⟩ (fun b => b) ?_
    refine r_ifne (pc := 13) (tgt := 19) dX12_led_13 rfl (fun c => ?_) (fun c => ?_)
    · have h := ie h c
      refine r_aload_n (pc := 19) dX12_led_19 rfl 0 rfl ?_
      refine r_aload_n (pc := 20) dX12_led_20 rfl 0 rfl ?_
      obtain ⟨g1, h⟩ := gd h
      obtain ⟨a2, ha2, h⟩ := ob h
      refine r_getS (pc := 21) dX12_led_21 fgX12_9 rfl g1 ha2 ?_
      refine r_iload_n (pc := 24) dX12_led_24 rfl 1 rfl ?_
      obtain ⟨g3, h⟩ := gd h
      obtain ⟨g4, h⟩ := gd h
      refine r_iaload (pc := 25) dX12_led_25 g3 g4 ?_
      obtain ⟨r5, hc6, h⟩ := ob h
      refine r_callV1 (pc := 26) (av := [vI (I a2 (Int32.toNatClampNeg x1))]) (S := []) dX12_led_26 (kX12_againstCard hc6) g1 rfl mkX12_472 mwX12_againstCard rfl ⟨Nat.le_of_ble_eq_true rfl, Nat.le_of_ble_eq_true rfl⟩ (Nat.le_of_ble_eq_true rfl) ⟨Nat.le_refl _, Nat.le_refl _⟩ (fun b => b) ?_
      refine r_istore_n (pc := 29) (L' := [(3, vI r5), (0, vR (some t)), (1, vI x1), (2, vI x2)]) dX12_led_29 rfl (by decide) rfl ?_
      refine r_iload_n (pc := 30) dX12_led_30 rfl 0 rfl ?_
      refine r_if_eq (pc := 31) (tgt := 40) dX12_led_31 rfl (fun c => ?_) (fun c => ?_)
      · have h := it h c
        refine r_aload_n (pc := 40) dX12_led_40 rfl 1 rfl ?_
        refine r_dup (pc := 41) dX12_led_41 rfl ?_
        refine r_getI (pc := 42) dX12_led_42 fgX12_475 rfl g1 ?_
        refine r_iconst (pc := 45) dX12_led_45 kc_iconst_1 ?_
        refine r_iadd (pc := 46) dX12_led_46 ?_
        refine r_putI (pc := 47) dX12_led_47 fwX12_475 rfl g1 ?_
        refine r_iconst (pc := 50) dX12_led_50 kc_iconst_0 ?_
        refine r_istore (pc := 51) (L' := [(4, vI (0 : Int32)), (3, vI r5), (0, vR (some t)), (1, vI x1), (2, vI x2)]) dX12_led_51 (by decide) rfl ?_
        refine r_iconst (pc := 53) dX12_led_53 kc_iconst_0 ?_
        refine r_istore (pc := 54) (L' := [(5, vI (0 : Int32)), (4, vI (0 : Int32)), (3, vI r5), (0, vR (some t)), (1, vI x1), (2, vI x2)]) dX12_led_54 (by decide) rfl ?_
        refine r_aload_n (pc := 56) dX12_led_56 rfl 3 rfl ?_
        refine r_getS (pc := 57) dX12_led_57 fgX12_9 rfl g1 ha2 ?_
        refine r_iload_n (pc := 60) dX12_led_60 rfl 4 rfl ?_
        refine r_iaload (pc := 61) dX12_led_61 g3 g4 ?_
        refine r_istore (pc := 62) (L' := [(6, vI ((u2 I t 32 ((I t 32) + (1 : Int32))) a2 (Int32.toNatClampNeg x1))), (5, vI (0 : Int32)), (4, vI (0 : Int32)), (3, vI r5), (0, vR (some t)), (1, vI x1), (2, vI x2)]) dX12_led_62 (by decide) rfl ?_
        refine r_sub [4, 6, 2, 1, 0] rfl ?_
        exact wX12_led_l64 _ _ _ _ _ _ h
      · have h := ie h c
        refine r_aload_n (pc := 34) dX12_led_34 rfl 1 rfl ?_
        refine r_iload_n (pc := 35) dX12_led_35 rfl 0 rfl ?_
        obtain ⟨⟨I27, r28⟩, hc29, h⟩ := ob h
        refine r_callV1 (pc := 36) (av := [vI r5]) (S := []) dX12_led_36 (kX12_no hc29) g1 rfl mkX12_308 mwX12_no rfl ⟨Nat.le_of_ble_eq_true rfl, Nat.le_of_ble_eq_true rfl⟩ (Nat.le_of_ble_eq_true rfl) ⟨Nat.le_refl _, Nat.le_refl _⟩ (fun b => b) ?_
        cases h
        exact r_iret dX12_led_39
    · have h := it h c
      refine r_bipush (pc := 16) dX12_led_16 kc_bipush_m2 ?_
      cases h
      exact r_iret dX12_led_18
abbrev WX12_step (G : Gx) (l : Launch) (σ0 : Shp) (X1 : Stt) (rv : Option SV) : Stt → Nat → List (Nat × SV) → List SV → Prop := Wm G l yX12_step cX12_step 7 (some .int) (fun _ => True) (rmx 1 22 σ0 X1.1) σ0 (Qmx G σ0 X1 rv)
def fX12_step (σ : Shp) (I : Nat → Nat → Int32) (R : Nat → Nat → Option Nat) (t : Nat) (x1 : Int32) (x2 : Int32) (x3 : Int32) (x4 : Int32) (x5 : Int32) : Option ((Nat → Nat → Int32) × (Int32)) :=
  if (fX12_in x1 (0 : Int32) (3 : Int32)) = 0 then
    some (I, (-2 : Int32))
  else
    if (fX12_in x2 (0 : Int32) (20 : Int32)) = 0 then
      some (I, (-2 : Int32))
    else
      if kdx σ t = 13 then
      ((R t 33) : Option Nat).bind fun a2 =>
      if kdx σ a2 = 20 then
      if ¬ (x1 < 0 ∨ lnx σ a2 ≤ Int32.toNatClampNeg x1) then
      if (I a2 (Int32.toNatClampNeg x1)) = (40 : Int32) then
        some (I, (-4 : Int32))
      else
        let v5 := (((40 : Int32) * x1) + (I a2 (Int32.toNatClampNeg x1)))
        ((R t 34) : Option Nat).bind fun a6 =>
        if kdx σ a6 = 20 then
        if ¬ (v5 < 0 ∨ lnx σ a6 ≤ Int32.toNatClampNeg v5) then
        let I9 := u2 I a6 (Int32.toNatClampNeg v5) x2
        ((R t 35) : Option Nat).bind fun a10 =>
        if kdx σ a10 = 20 then
        if ¬ (v5 < 0 ∨ lnx σ a10 ≤ Int32.toNatClampNeg v5) then
        let I13 := u2 I9 a10 (Int32.toNatClampNeg v5) x3
        ((R t 36) : Option Nat).bind fun a14 =>
        if kdx σ a14 = 20 then
        if ¬ (v5 < 0 ∨ lnx σ a14 ≤ Int32.toNatClampNeg v5) then
        let I17 := u2 I13 a14 (Int32.toNatClampNeg v5) x4
        ((R t 37) : Option Nat).bind fun a18 =>
        if kdx σ a18 = 20 then
        if ¬ (v5 < 0 ∨ lnx σ a18 ≤ Int32.toNatClampNeg v5) then
        let I21 := u2 I17 a18 (Int32.toNatClampNeg v5) x5
        let I22 := u2 I21 a2 (Int32.toNatClampNeg x1) ((I21 a2 (Int32.toNatClampNeg x1)) + (1 : Int32))
        some (I22, ((I22 a2 (Int32.toNatClampNeg x1)) - (1 : Int32)))
        else none
        else none
        else none
        else none
        else none
        else none
        else none
        else none
      else none
      else none
      else none
theorem kX12_step {G : Gx} {l : Launch} {σ : Shp} {I : Nat → Nat → Int32} {J : Nat → Nat → Int64} {D : Nat → Nat → UInt64} {R : Nat → Nat → Option Nat} {t : Nat} {x1 : Int32} {x2 : Int32} {x3 : Int32} {x4 : Int32} {x5 : Int32} {I9 : Nat → Nat → Int32} {r9 : Int32} (h : fX12_step σ I R t x1 x2 x3 x4 x5 = some (I9, r9)) : Con G l yX12_step cX12_step 7 (some .int) 1 22 [vR (some t), vI x1, vI x2, vI x3, vI x4, vI x5] (σ, I, J, D, R) (σ, I9, J, D, R) (some (vI r9)) := by
  unfold fX12_step at h
  refine Con.mk (by decide +kernel) rfl (Nat.le_of_ble_eq_true rfl) ?_
  show WX12_step G l σ (σ, I9, J, D, R) (some (vI r9)) (σ, I, J, D, R) 0 _ []
  refine r_iload_n (pc := 0) dX12_step_0 rfl 1 rfl ?_
  refine r_iconst (pc := 1) dX12_step_1 kc_iconst_0 ?_
  refine r_iconst (pc := 2) dX12_step_2 kc_iconst_3 ?_
  refine r_callS1 (pc := 3) (av := [vI x1, vI (0 : Int32), vI (3 : Int32)]) (S := []) dX12_step_3 (kX12_in rfl) mkX12_322 mwX12_in rfl ⟨Nat.le_of_ble_eq_true rfl, Nat.le_of_ble_eq_true rfl⟩ (Nat.le_of_ble_eq_true rfl) ⟨Nat.le_refl _, Nat.le_refl _⟩ (fun b => b) ?_
  refine r_if_eq (pc := 6) (tgt := 19) dX12_step_6 rfl (fun c => ?_) (fun c => ?_)
  · have h := it h c
    refine r_bipush (pc := 19) dX12_step_19 kc_bipush_m2 ?_
    cases h
    exact r_iret dX12_step_21
  · have h := ie h c
    refine r_iload_n (pc := 9) dX12_step_9 rfl 2 rfl ?_
    refine r_iconst (pc := 10) dX12_step_10 kc_iconst_0 ?_
    refine r_bipush (pc := 11) dX12_step_11 kc_bipush_20 ?_
    refine r_callS1 (pc := 13) (av := [vI x2, vI (0 : Int32), vI (20 : Int32)]) (S := []) dX12_step_13 (kX12_in rfl) mkX12_322 mwX12_in rfl ⟨Nat.le_of_ble_eq_true rfl, Nat.le_of_ble_eq_true rfl⟩ (Nat.le_of_ble_eq_true rfl) ⟨Nat.le_refl _, Nat.le_refl _⟩ (fun b => b) ?_
    refine r_ifne (pc := 16) (tgt := 22) dX12_step_16 rfl (fun c => ?_) (fun c => ?_)
    · have h := ie h c
      refine r_aload_n (pc := 22) dX12_step_22 rfl 0 rfl ?_
      obtain ⟨g1, h⟩ := gd h
      obtain ⟨a2, ha2, h⟩ := ob h
      refine r_getS (pc := 23) dX12_step_23 fgX12_74 rfl g1 ha2 ?_
      refine r_iload_n (pc := 26) dX12_step_26 rfl 1 rfl ?_
      obtain ⟨g3, h⟩ := gd h
      obtain ⟨g4, h⟩ := gd h
      refine r_iaload (pc := 27) dX12_step_27 g3 g4 ?_
      refine r_bipush (pc := 28) dX12_step_28 kc_bipush_40 ?_
      refine r_icmp_ne (pc := 30) (tgt := 36) dX12_step_30 rfl (fun c => ?_) (fun c => ?_)
      · have h := ie h c
        refine r_bipush (pc := 36) dX12_step_36 kc_bipush_40 ?_
        refine r_iload_n (pc := 38) dX12_step_38 rfl 1 rfl ?_
        refine r_imul (pc := 39) dX12_step_39 ?_
        refine r_aload_n (pc := 40) dX12_step_40 rfl 0 rfl ?_
        refine r_getS (pc := 41) dX12_step_41 fgX12_74 rfl g1 ha2 ?_
        refine r_iload_n (pc := 44) dX12_step_44 rfl 1 rfl ?_
        refine r_iaload (pc := 45) dX12_step_45 g3 g4 ?_
        refine r_iadd (pc := 46) dX12_step_46 ?_
        refine r_istore (pc := 47) (L' := [(6, vI (((40 : Int32) * x1) + (I a2 (Int32.toNatClampNeg x1)))), (0, vR (some t)), (1, vI x1), (2, vI x2), (3, vI x3), (4, vI x4), (5, vI x5)]) dX12_step_47 (by decide) rfl ?_
        refine r_aload_n (pc := 49) dX12_step_49 rfl 1 rfl ?_
        obtain ⟨a6, ha6, h⟩ := ob h
        refine r_getS (pc := 50) dX12_step_50 fgX12_77 rfl g1 ha6 ?_
        refine r_iload (pc := 53) dX12_step_53 0 rfl ?_
        refine r_iload_n (pc := 55) dX12_step_55 rfl 3 rfl ?_
        obtain ⟨g7, h⟩ := gd h
        obtain ⟨g8, h⟩ := gd h
        refine r_iastore (pc := 56) dX12_step_56 g7 g8 ?_
        refine r_aload_n (pc := 57) dX12_step_57 rfl 1 rfl ?_
        obtain ⟨a10, ha10, h⟩ := ob h
        refine r_getS (pc := 58) dX12_step_58 fgX12_80 rfl g1 ha10 ?_
        refine r_iload (pc := 61) dX12_step_61 0 rfl ?_
        refine r_iload_n (pc := 63) dX12_step_63 rfl 4 rfl ?_
        obtain ⟨g11, h⟩ := gd h
        obtain ⟨g12, h⟩ := gd h
        refine r_iastore (pc := 64) dX12_step_64 g11 g12 ?_
        refine r_aload_n (pc := 65) dX12_step_65 rfl 1 rfl ?_
        obtain ⟨a14, ha14, h⟩ := ob h
        refine r_getS (pc := 66) dX12_step_66 fgX12_83 rfl g1 ha14 ?_
        refine r_iload (pc := 69) dX12_step_69 0 rfl ?_
        refine r_iload (pc := 71) dX12_step_71 5 rfl ?_
        obtain ⟨g15, h⟩ := gd h
        obtain ⟨g16, h⟩ := gd h
        refine r_iastore (pc := 73) dX12_step_73 g15 g16 ?_
        refine r_aload_n (pc := 74) dX12_step_74 rfl 1 rfl ?_
        obtain ⟨a18, ha18, h⟩ := ob h
        refine r_getS (pc := 75) dX12_step_75 fgX12_86 rfl g1 ha18 ?_
        refine r_iload (pc := 78) dX12_step_78 0 rfl ?_
        refine r_iload (pc := 80) dX12_step_80 6 rfl ?_
        obtain ⟨g19, h⟩ := gd h
        obtain ⟨g20, h⟩ := gd h
        refine r_iastore (pc := 82) dX12_step_82 g19 g20 ?_
        refine r_aload_n (pc := 83) dX12_step_83 rfl 1 rfl ?_
        refine r_getS (pc := 84) dX12_step_84 fgX12_74 rfl g1 ha2 ?_
        refine r_iload_n (pc := 87) dX12_step_87 rfl 2 rfl ?_
        refine r_dup2 (pc := 88) dX12_step_88 rfl rfl ?_
        refine r_iaload (pc := 89) dX12_step_89 g3 g4 ?_
        refine r_iconst (pc := 90) dX12_step_90 kc_iconst_1 ?_
        refine r_iadd (pc := 91) dX12_step_91 ?_
        refine r_iastore (pc := 92) dX12_step_92 g3 g4 ?_
        refine r_aload_n (pc := 93) dX12_step_93 rfl 1 rfl ?_
        refine r_getS (pc := 94) dX12_step_94 fgX12_74 rfl g1 ha2 ?_
        refine r_iload_n (pc := 97) dX12_step_97 rfl 2 rfl ?_
        refine r_iaload (pc := 98) dX12_step_98 g3 g4 ?_
        refine r_iconst (pc := 99) dX12_step_99 kc_iconst_1 ?_
        refine r_isub (pc := 100) dX12_step_100 ?_
        cases h
        exact r_iret dX12_step_101
      · have h := it h c
        refine r_bipush (pc := 33) dX12_step_33 kc_bipush_m4 ?_
        cases h
        exact r_iret dX12_step_35
    · have h := it h c
      refine r_bipush (pc := 19) dX12_step_19 kc_bipush_m2 ?_
      cases h
      exact r_iret dX12_step_21
abbrev WX12_drop (G : Gx) (l : Launch) (σ0 : Shp) (X1 : Stt) (rv : Option SV) : Stt → Nat → List (Nat × SV) → List SV → Prop := Wm G l yX12_drop cX12_drop 3 (some .int) (fun _ => True) (rmx 1 22 σ0 X1.1) σ0 (Qmx G σ0 X1 rv)
def fX12_drop (σ : Shp) (I : Nat → Nat → Int32) (R : Nat → Nat → Option Nat) (t : Nat) (x1 : Int32) : Option ((Nat → Nat → Int32) × (Int32)) :=
  if (fX12_in x1 (0 : Int32) (3 : Int32)) = 0 then
    some (I, (-2 : Int32))
  else
    if kdx σ t = 13 then
    ((R t 33) : Option Nat).bind fun a2 =>
    if kdx σ a2 = 20 then
    if ¬ (x1 < 0 ∨ lnx σ a2 ≤ Int32.toNatClampNeg x1) then
    let v5 := (I a2 (Int32.toNatClampNeg x1))
    let I6 := u2 I a2 (Int32.toNatClampNeg x1) (0 : Int32)
    some (I6, v5)
    else none
    else none
    else none
theorem kX12_drop {G : Gx} {l : Launch} {σ : Shp} {I : Nat → Nat → Int32} {J : Nat → Nat → Int64} {D : Nat → Nat → UInt64} {R : Nat → Nat → Option Nat} {t : Nat} {x1 : Int32} {I9 : Nat → Nat → Int32} {r9 : Int32} (h : fX12_drop σ I R t x1 = some (I9, r9)) : Con G l yX12_drop cX12_drop 3 (some .int) 1 22 [vR (some t), vI x1] (σ, I, J, D, R) (σ, I9, J, D, R) (some (vI r9)) := by
  unfold fX12_drop at h
  refine Con.mk (by decide +kernel) rfl (Nat.le_of_ble_eq_true rfl) ?_
  show WX12_drop G l σ (σ, I9, J, D, R) (some (vI r9)) (σ, I, J, D, R) 0 _ []
  refine r_iload_n (pc := 0) dX12_drop_0 rfl 1 rfl ?_
  refine r_iconst (pc := 1) dX12_drop_1 kc_iconst_0 ?_
  refine r_iconst (pc := 2) dX12_drop_2 kc_iconst_3 ?_
  refine r_callS1 (pc := 3) (av := [vI x1, vI (0 : Int32), vI (3 : Int32)]) (S := []) dX12_drop_3 (kX12_in rfl) mkX12_322 mwX12_in rfl ⟨Nat.le_of_ble_eq_true rfl, Nat.le_of_ble_eq_true rfl⟩ (Nat.le_of_ble_eq_true rfl) ⟨Nat.le_refl _, Nat.le_refl _⟩ (fun b => b) ?_
  refine r_ifne (pc := 6) (tgt := 12) dX12_drop_6 rfl (fun c => ?_) (fun c => ?_)
  · have h := ie h c
    refine r_aload_n (pc := 12) dX12_drop_12 rfl 0 rfl ?_
    obtain ⟨g1, h⟩ := gd h
    obtain ⟨a2, ha2, h⟩ := ob h
    refine r_getS (pc := 13) dX12_drop_13 fgX12_74 rfl g1 ha2 ?_
    refine r_iload_n (pc := 16) dX12_drop_16 rfl 1 rfl ?_
    obtain ⟨g3, h⟩ := gd h
    obtain ⟨g4, h⟩ := gd h
    refine r_iaload (pc := 17) dX12_drop_17 g3 g4 ?_
    refine r_istore_n (pc := 18) (L' := [(2, vI (I a2 (Int32.toNatClampNeg x1))), (0, vR (some t)), (1, vI x1)]) dX12_drop_18 rfl (by decide) rfl ?_
    refine r_aload_n (pc := 19) dX12_drop_19 rfl 1 rfl ?_
    refine r_getS (pc := 20) dX12_drop_20 fgX12_74 rfl g1 ha2 ?_
    refine r_iload_n (pc := 23) dX12_drop_23 rfl 2 rfl ?_
    refine r_iconst (pc := 24) dX12_drop_24 kc_iconst_0 ?_
    refine r_iastore (pc := 25) dX12_drop_25 g3 g4 ?_
    refine r_iload_n (pc := 26) dX12_drop_26 rfl 0 rfl ?_
    cases h
    exact r_iret dX12_drop_27
  · have h := it h c
    refine r_bipush (pc := 9) dX12_drop_9 kc_bipush_m2 ?_
    cases h
    exact r_iret dX12_drop_11
abbrev WX12_hasBody (G : Gx) (l : Launch) (σ0 : Shp) (X1 : Stt) (rv : Option SV) : Stt → Nat → List (Nat × SV) → List SV → Prop := Wm G l yX12_hasBody cX12_hasBody 1 (some .boolean) (fun _ => True) (rmx 0 0 σ0 X1.1) σ0 (Qmx G σ0 X1 rv)
def fX12_hasBody  (x0 : Int32) : (Int32) :=
  if x0 < (11 : Int32) then
    (0 : Int32)
  else
    (1 : Int32)
theorem zX12_hasBody  (x0 : Int32) : fX12_hasBody x0 = 0 ∨ fX12_hasBody x0 = 1 := by
  unfold fX12_hasBody
  repeat' (first | refine itz ?_ ?_ | exact Or.inl rfl | exact Or.inr rfl)
theorem kX12_hasBody {G : Gx} {l : Launch} {σ : Shp} {I : Nat → Nat → Int32} {J : Nat → Nat → Int64} {D : Nat → Nat → UInt64} {R : Nat → Nat → Option Nat} {x0 : Int32} {r9 : Int32} (h : fX12_hasBody x0 = r9) : Con G l yX12_hasBody cX12_hasBody 1 (some .boolean) 0 0 [vI x0] (σ, I, J, D, R) (σ, I, J, D, R) (some (vI r9)) := by
  unfold fX12_hasBody at h
  refine Con.mk (by decide +kernel) rfl (Nat.le_of_ble_eq_true rfl) ?_
  show WX12_hasBody G l σ (σ, I, J, D, R) (some (vI r9)) (σ, I, J, D, R) 0 _ []
  refine r_iload_n (pc := 0) dX12_hasBody_0 rfl 0 rfl ?_
  refine r_bipush (pc := 1) dX12_hasBody_1 kc_bipush_11 ?_
  refine r_icmp_lt (pc := 3) (tgt := 10) dX12_hasBody_3 rfl (fun c => ?_) (fun c => ?_)
  · have h := it h c
    refine r_iconst (pc := 10) dX12_hasBody_10 kc_iconst_0 ?_
    subst h
    exact r_zret dX12_hasBody_11 (Or.inl rfl)
  · have h := ie h c
    refine r_iconst (pc := 6) dX12_hasBody_6 kc_iconst_1 ?_
    refine r_goto (pc := 7) (tgt := 11) dX12_hasBody_7 rfl ?_
    subst h
    exact r_zret dX12_hasBody_11 (Or.inr rfl)
abbrev WX12_wrong (G : Gx) (l : Launch) (σ0 : Shp) (X1 : Stt) (rv : Option SV) : Stt → Nat → List (Nat × SV) → List SV → Prop := Wm G l yX12_wrong cX12_wrong 6 (some .int) (fun _ => True) (rmx 1 20 σ0 X1.1) σ0 (Qmx G σ0 X1 rv)
def fX12_wrong_b99 (q7 : (Nat → Nat → Int32) → (Int32) → (Int32) → (Int32) → (Int32) → (Option ((Nat → Nat → Int32) × (Int32)))) (σ : Shp) (R : Nat → Nat → Option Nat) (t : Nat) (I : Nat → Nat → Int32) (x1 : Int32) (x2 : Int32) (x4 : Int32) (x5 : Int32) : Option ((Nat → Nat → Int32) × (Int32)) :=
  if (fX12_hasBody x5) = 0 then
    let v9 := x4 + (1 : Int32)
    q7 I x1 x2 (0 : Int32) v9
  else
    if kdx σ t = 13 then
    ((R t 41) : Option Nat).bind fun a11 =>
    if kdx σ a11 = 20 then
    if ¬ (x2 < 0 ∨ lnx σ a11 ≤ Int32.toNatClampNeg x2) then
    let I14 := u2 I a11 (Int32.toNatClampNeg x2) x5
    let v15 := x2 + (1 : Int32)
    let v16 := x4 + (1 : Int32)
    q7 I14 x1 v15 (0 : Int32) v16
    else none
    else none
    else none
theorem wX12_wrong_b99 {G : Gx} {l : Launch} {σ : Shp} {I : Nat → Nat → Int32} {J : Nat → Nat → Int64} {D : Nat → Nat → UInt64} {R : Nat → Nat → Option Nat} {t : Nat} {I9 : Nat → Nat → Int32} {r9 : Int32} {q7 : (Nat → Nat → Int32) → (Int32) → (Int32) → (Int32) → (Int32) → (Option ((Nat → Nat → Int32) × (Int32)))} {x1 : Int32} {x2 : Int32} {x4 : Int32} {x5 : Int32} (hq7 : ∀ (I : Nat → Nat → Int32) (x1 : Int32) (x2 : Int32) (x3 : Int32) (x4 : Int32), q7 I x1 x2 x3 x4 = some (I9, r9) → WX12_wrong G l σ (σ, I9, J, D, R) (some (vI r9)) (σ, I, J, D, R) 7 [(0, vR (some t)), (1, vI x1), (2, vI x2), (3, vI x3), (4, vI x4)] []) (h : fX12_wrong_b99 q7 σ R t I x1 x2 x4 x5 = some (I9, r9)) : WX12_wrong G l σ (σ, I9, J, D, R) (some (vI r9)) (σ, I, J, D, R) 99 [(0, vR (some t)), (1, vI x1), (2, vI x2), (4, vI x4), (5, vI x5)] [] := by
  unfold fX12_wrong_b99 at h
  refine r_iconst (pc := 99) dX12_wrong_99 kc_iconst_0 ?_
  refine r_istore_n (pc := 100) (L' := [(3, vI (0 : Int32)), (0, vR (some t)), (1, vI x1), (2, vI x2), (4, vI x4), (5, vI x5)]) dX12_wrong_100 rfl (by decide) rfl ?_
  refine r_iload (pc := 101) dX12_wrong_101 5 rfl ?_
  refine r_callS1 (pc := 103) (av := [vI x5]) (S := []) dX12_wrong_103 (kX12_hasBody rfl) mkX12_478 mwX12_hasBody rfl ⟨Nat.le_of_ble_eq_true rfl, Nat.le_of_ble_eq_true rfl⟩ (Nat.le_of_ble_eq_true rfl) ⟨Nat.le_refl _, Nat.le_refl _⟩ (fun b => b) ?_
  refine r_if_eq (pc := 106) (tgt := 120) dX12_wrong_106 rfl (fun c => ?_) (fun c => ?_)
  · have h := it h c
    refine r_iinc (pc := 120) (v := (x4 + (1 : Int32))) (L' := [(4, vI (x4 + (1 : Int32))), (3, vI (0 : Int32)), (0, vR (some t)), (1, vI x1), (2, vI x2), (5, vI x5)]) dX12_wrong_120 4 rfl (kc_inc_1 _) (by decide) rfl ?_
    refine r_goto (pc := 123) (tgt := 7) dX12_wrong_123 rfl ?_
    refine r_sub [2, 3, 4, 1, 0] rfl ?_
    exact hq7 _ _ _ _ _ h
  · have h := ie h c
    refine r_aload_n (pc := 109) dX12_wrong_109 rfl 1 rfl ?_
    obtain ⟨g10, h⟩ := gd h
    obtain ⟨a11, ha11, h⟩ := ob h
    refine r_getS (pc := 110) dX12_wrong_110 fgX12_98 rfl g10 ha11 ?_
    refine r_iload_n (pc := 113) dX12_wrong_113 rfl 3 rfl ?_
    refine r_iload (pc := 114) dX12_wrong_114 5 rfl ?_
    obtain ⟨g12, h⟩ := gd h
    obtain ⟨g13, h⟩ := gd h
    refine r_iastore (pc := 116) dX12_wrong_116 g12 g13 ?_
    refine r_iinc (pc := 117) (v := (x2 + (1 : Int32))) (L' := [(2, vI (x2 + (1 : Int32))), (3, vI (0 : Int32)), (0, vR (some t)), (1, vI x1), (4, vI x4), (5, vI x5)]) dX12_wrong_117 3 rfl (kc_inc_1 _) (by decide) rfl ?_
    refine r_iinc (pc := 120) (v := (x4 + (1 : Int32))) (L' := [(4, vI (x4 + (1 : Int32))), (2, vI (x2 + (1 : Int32))), (3, vI (0 : Int32)), (0, vR (some t)), (1, vI x1), (5, vI x5)]) dX12_wrong_120 4 rfl (kc_inc_1 _) (by decide) rfl ?_
    refine r_goto (pc := 123) (tgt := 7) dX12_wrong_123 rfl ?_
    refine r_sub [3, 4, 1, 2, 0] rfl ?_
    exact hq7 _ _ _ _ _ h
def fX12_wrong_l7  (σ : Shp) (R : Nat → Nat → Option Nat) (t : Nat) : Nat → (Nat → Nat → Int32) → (Int32) → (Int32) → (Int32) → (Int32) → Option ((Nat → Nat → Int32) × (Int32))
  | 0, _, _, _, _, _ => none
  | n + 1, I, x1, x2, x3, x4 =>
    if kdx σ t = 13 then
    ((R t 33) : Option Nat).bind fun a2 =>
    if kdx σ a2 = 20 then
    if ¬ (x1 < 0 ∨ lnx σ a2 ≤ Int32.toNatClampNeg x1) then
    if (I a2 (Int32.toNatClampNeg x1)) ≤ x4 then
      if x2 ≤ 0 then
        some (I, (-1 : Int32))
      else
        some (I, (I a2 (Int32.toNatClampNeg x1)))
    else
      ((R t 34) : Option Nat).bind fun a5 =>
      if kdx σ a5 = 20 then
      if ¬ ((((40 : Int32) * x1) + x4) < 0 ∨ lnx σ a5 ≤ Int32.toNatClampNeg (((40 : Int32) * x1) + x4)) then
      let v8 := (I a5 (Int32.toNatClampNeg (((40 : Int32) * x1) + x4)))
      if v8 = 0 then
        if x2 = 0 then
          some (I, x4)
        else
          let v17 := x2 + (-1 : Int32)
          ((R t 41) : Option Nat).bind fun a18 =>
          if kdx σ a18 = 20 then
          if ¬ (v17 < 0 ∨ lnx σ a18 ≤ Int32.toNatClampNeg v17) then
          if (I a18 (Int32.toNatClampNeg v17)) = (16 : Int32) then
            let v21 := x4 + (1 : Int32)
            fX12_wrong_l7 σ R t n I x1 v17 (1 : Int32) v21
          else
            if (I a18 (Int32.toNatClampNeg v17)) = (17 : Int32) then
              let v23 := x4 + (1 : Int32)
              fX12_wrong_l7 σ R t n I x1 v17 (1 : Int32) v23
            else
              let v22 := x4 + (1 : Int32)
              fX12_wrong_l7 σ R t n I x1 v17 (0 : Int32) v22
          else none
          else none
      else
        if v8 = (17 : Int32) then
          if x3 = 0 then
            some (I, x4)
          else
            fX12_wrong_b99 (fX12_wrong_l7 σ R t n) σ R t I x1 x2 x4 v8
        else
          if v8 = (18 : Int32) then
            if x3 = 0 then
              some (I, x4)
            else
              fX12_wrong_b99 (fX12_wrong_l7 σ R t n) σ R t I x1 x2 x4 v8
          else
            fX12_wrong_b99 (fX12_wrong_l7 σ R t n) σ R t I x1 x2 x4 v8
      else none
      else none
    else none
    else none
    else none
theorem wX12_wrong_l7 {G : Gx} {l : Launch} {σ : Shp} {J : Nat → Nat → Int64} {D : Nat → Nat → UInt64} {R : Nat → Nat → Option Nat} {t : Nat} {I9 : Nat → Nat → Int32} {r9 : Int32} : ∀ (n : Nat) (I : Nat → Nat → Int32) (x1 : Int32) (x2 : Int32) (x3 : Int32) (x4 : Int32), fX12_wrong_l7 σ R t n I x1 x2 x3 x4 = some (I9, r9) → WX12_wrong G l σ (σ, I9, J, D, R) (some (vI r9)) (σ, I, J, D, R) 7 [(0, vR (some t)), (1, vI x1), (2, vI x2), (3, vI x3), (4, vI x4)] [] := by
  intro n
  induction n with
  | zero =>
    intro I x1 x2 x3 x4 h
    have h : none = some _ := h
    cases h
  | succ n ih =>
    intro I x1 x2 x3 x4 h
    rw [fX12_wrong_l7] at h
    refine r_iload (pc := 7) dX12_wrong_7 4 rfl ?_
    refine r_aload_n (pc := 9) dX12_wrong_9 rfl 0 rfl ?_
    obtain ⟨g1, h⟩ := gd h
    obtain ⟨a2, ha2, h⟩ := ob h
    refine r_getS (pc := 10) dX12_wrong_10 fgX12_74 rfl g1 ha2 ?_
    refine r_iload_n (pc := 13) dX12_wrong_13 rfl 1 rfl ?_
    obtain ⟨g3, h⟩ := gd h
    obtain ⟨g4, h⟩ := gd h
    refine r_iaload (pc := 14) dX12_wrong_14 g3 g4 ?_
    refine r_icmp_ge (pc := 15) (tgt := 126) dX12_wrong_15 rfl (fun c => ?_) (fun c => ?_)
    · have h := it h c
      refine r_iload_n (pc := 126) dX12_wrong_126 rfl 2 rfl ?_
      refine r_if_le (pc := 127) (tgt := 139) dX12_wrong_127 rfl (fun c => ?_) (fun c => ?_)
      · have h := it h c
        refine r_iconst (pc := 139) dX12_wrong_139 kc_iconst_m1 ?_
        cases h
        exact r_iret dX12_wrong_140
      · have h := ie h c
        refine r_aload_n (pc := 130) dX12_wrong_130 rfl 0 rfl ?_
        refine r_getS (pc := 131) dX12_wrong_131 fgX12_74 rfl g1 ha2 ?_
        refine r_iload_n (pc := 134) dX12_wrong_134 rfl 1 rfl ?_
        refine r_iaload (pc := 135) dX12_wrong_135 g3 g4 ?_
        refine r_goto (pc := 136) (tgt := 140) dX12_wrong_136 rfl ?_
        cases h
        exact r_iret dX12_wrong_140
    · have h := ie h c
      refine r_aload_n (pc := 18) dX12_wrong_18 rfl 0 rfl ?_
      obtain ⟨a5, ha5, h⟩ := ob h
      refine r_getS (pc := 19) dX12_wrong_19 fgX12_77 rfl g1 ha5 ?_
      refine r_bipush (pc := 22) dX12_wrong_22 kc_bipush_40 ?_
      refine r_iload_n (pc := 24) dX12_wrong_24 rfl 1 rfl ?_
      refine r_imul (pc := 25) dX12_wrong_25 ?_
      refine r_iload (pc := 26) dX12_wrong_26 4 rfl ?_
      refine r_iadd (pc := 28) dX12_wrong_28 ?_
      obtain ⟨g6, h⟩ := gd h
      obtain ⟨g7, h⟩ := gd h
      refine r_iaload (pc := 29) dX12_wrong_29 g6 g7 ?_
      refine r_istore (pc := 30) (L' := [(5, vI (I a5 (Int32.toNatClampNeg (((40 : Int32) * x1) + x4)))), (0, vR (some t)), (1, vI x1), (2, vI x2), (3, vI x3), (4, vI x4)]) dX12_wrong_30 (by decide) rfl ?_
      refine r_iload (pc := 32) dX12_wrong_32 0 rfl ?_
      refine r_ifne (pc := 34) (tgt := 78) dX12_wrong_34 rfl (fun c => ?_) (fun c => ?_)
      · have h := ie h c
        refine r_iload (pc := 78) dX12_wrong_78 0 rfl ?_
        refine r_bipush (pc := 80) dX12_wrong_80 kc_bipush_17 ?_
        refine r_icmp_eq (pc := 82) (tgt := 92) dX12_wrong_82 rfl (fun c => ?_) (fun c => ?_)
        · have h := it h c
          refine r_iload_n (pc := 92) dX12_wrong_92 rfl 4 rfl ?_
          refine r_ifne (pc := 93) (tgt := 99) dX12_wrong_93 rfl (fun c => ?_) (fun c => ?_)
          · have h := ie h c
            refine r_sub [1, 2, 3, 5, 0] rfl ?_
            exact wX12_wrong_b99 ih h
          · have h := it h c
            refine r_iload (pc := 96) dX12_wrong_96 5 rfl ?_
            cases h
            exact r_iret dX12_wrong_98
        · have h := ie h c
          refine r_iload (pc := 85) dX12_wrong_85 0 rfl ?_
          refine r_bipush (pc := 87) dX12_wrong_87 kc_bipush_18 ?_
          refine r_icmp_ne (pc := 89) (tgt := 99) dX12_wrong_89 rfl (fun c => ?_) (fun c => ?_)
          · have h := ie h c
            refine r_sub [1, 2, 3, 5, 0] rfl ?_
            exact wX12_wrong_b99 ih h
          · have h := it h c
            refine r_iload_n (pc := 92) dX12_wrong_92 rfl 4 rfl ?_
            refine r_ifne (pc := 93) (tgt := 99) dX12_wrong_93 rfl (fun c => ?_) (fun c => ?_)
            · have h := ie h c
              refine r_sub [1, 2, 3, 5, 0] rfl ?_
              exact wX12_wrong_b99 ih h
            · have h := it h c
              refine r_iload (pc := 96) dX12_wrong_96 5 rfl ?_
              cases h
              exact r_iret dX12_wrong_98
      · have h := it h c
        refine r_iload_n (pc := 37) dX12_wrong_37 rfl 3 rfl ?_
        refine r_ifne (pc := 38) (tgt := 44) dX12_wrong_38 rfl (fun c => ?_) (fun c => ?_)
        · have h := ie h c
          refine r_iinc (pc := 44) (v := (x2 + (-1 : Int32))) (L' := [(2, vI (x2 + (-1 : Int32))), (5, vI (I a5 (Int32.toNatClampNeg (((40 : Int32) * x1) + x4)))), (0, vR (some t)), (1, vI x1), (3, vI x3), (4, vI x4)]) dX12_wrong_44 3 rfl (kc_inc_m1 _) (by decide) rfl ?_
          refine r_aload_n (pc := 47) dX12_wrong_47 rfl 2 rfl ?_
          obtain ⟨a18, ha18, h⟩ := ob h
          refine r_getS (pc := 48) dX12_wrong_48 fgX12_98 rfl g1 ha18 ?_
          refine r_iload_n (pc := 51) dX12_wrong_51 rfl 0 rfl ?_
          obtain ⟨g19, h⟩ := gd h
          obtain ⟨g20, h⟩ := gd h
          refine r_iaload (pc := 52) dX12_wrong_52 g19 g20 ?_
          refine r_bipush (pc := 53) dX12_wrong_53 kc_bipush_16 ?_
          refine r_icmp_eq (pc := 55) (tgt := 69) dX12_wrong_55 rfl (fun c => ?_) (fun c => ?_)
          · have h := it h c
            refine r_iconst (pc := 69) dX12_wrong_69 kc_iconst_1 ?_
            refine r_goto (pc := 70) (tgt := 74) dX12_wrong_70 rfl ?_
            refine r_istore_n (pc := 74) (L' := [(3, vI (1 : Int32)), (2, vI (x2 + (-1 : Int32))), (5, vI (I a5 (Int32.toNatClampNeg (((40 : Int32) * x1) + x4)))), (0, vR (some t)), (1, vI x1), (4, vI x4)]) dX12_wrong_74 rfl (by decide) rfl ?_
            refine r_goto (pc := 75) (tgt := 120) dX12_wrong_75 rfl ?_
            refine r_iinc (pc := 120) (v := (x4 + (1 : Int32))) (L' := [(4, vI (x4 + (1 : Int32))), (3, vI (1 : Int32)), (2, vI (x2 + (-1 : Int32))), (5, vI (I a5 (Int32.toNatClampNeg (((40 : Int32) * x1) + x4)))), (0, vR (some t)), (1, vI x1)]) dX12_wrong_120 5 rfl (kc_inc_1 _) (by decide) rfl ?_
            refine r_goto (pc := 123) (tgt := 7) dX12_wrong_123 rfl ?_
            refine r_sub [4, 5, 2, 1, 0] rfl ?_
            exact ih _ _ _ _ _ h
          · have h := ie h c
            refine r_aload_n (pc := 58) dX12_wrong_58 rfl 2 rfl ?_
            refine r_getS (pc := 59) dX12_wrong_59 fgX12_98 rfl g1 ha18 ?_
            refine r_iload_n (pc := 62) dX12_wrong_62 rfl 0 rfl ?_
            refine r_iaload (pc := 63) dX12_wrong_63 g19 g20 ?_
            refine r_bipush (pc := 64) dX12_wrong_64 kc_bipush_17 ?_
            refine r_icmp_ne (pc := 66) (tgt := 73) dX12_wrong_66 rfl (fun c => ?_) (fun c => ?_)
            · have h := ie h c
              refine r_iconst (pc := 73) dX12_wrong_73 kc_iconst_0 ?_
              refine r_istore_n (pc := 74) (L' := [(3, vI (0 : Int32)), (2, vI (x2 + (-1 : Int32))), (5, vI (I a5 (Int32.toNatClampNeg (((40 : Int32) * x1) + x4)))), (0, vR (some t)), (1, vI x1), (4, vI x4)]) dX12_wrong_74 rfl (by decide) rfl ?_
              refine r_goto (pc := 75) (tgt := 120) dX12_wrong_75 rfl ?_
              refine r_iinc (pc := 120) (v := (x4 + (1 : Int32))) (L' := [(4, vI (x4 + (1 : Int32))), (3, vI (0 : Int32)), (2, vI (x2 + (-1 : Int32))), (5, vI (I a5 (Int32.toNatClampNeg (((40 : Int32) * x1) + x4)))), (0, vR (some t)), (1, vI x1)]) dX12_wrong_120 5 rfl (kc_inc_1 _) (by decide) rfl ?_
              refine r_goto (pc := 123) (tgt := 7) dX12_wrong_123 rfl ?_
              refine r_sub [4, 5, 2, 1, 0] rfl ?_
              exact ih _ _ _ _ _ h
            · have h := it h c
              refine r_iconst (pc := 69) dX12_wrong_69 kc_iconst_1 ?_
              refine r_goto (pc := 70) (tgt := 74) dX12_wrong_70 rfl ?_
              refine r_istore_n (pc := 74) (L' := [(3, vI (1 : Int32)), (2, vI (x2 + (-1 : Int32))), (5, vI (I a5 (Int32.toNatClampNeg (((40 : Int32) * x1) + x4)))), (0, vR (some t)), (1, vI x1), (4, vI x4)]) dX12_wrong_74 rfl (by decide) rfl ?_
              refine r_goto (pc := 75) (tgt := 120) dX12_wrong_75 rfl ?_
              refine r_iinc (pc := 120) (v := (x4 + (1 : Int32))) (L' := [(4, vI (x4 + (1 : Int32))), (3, vI (1 : Int32)), (2, vI (x2 + (-1 : Int32))), (5, vI (I a5 (Int32.toNatClampNeg (((40 : Int32) * x1) + x4)))), (0, vR (some t)), (1, vI x1)]) dX12_wrong_120 5 rfl (kc_inc_1 _) (by decide) rfl ?_
              refine r_goto (pc := 123) (tgt := 7) dX12_wrong_123 rfl ?_
              refine r_sub [4, 5, 2, 1, 0] rfl ?_
              exact ih _ _ _ _ _ h
        · have h := it h c
          refine r_iload (pc := 41) dX12_wrong_41 5 rfl ?_
          cases h
          exact r_iret dX12_wrong_43
def fX12_wrong (σ : Shp) (I : Nat → Nat → Int32) (R : Nat → Nat → Option Nat) (t : Nat) (x1 : Int32) : Option ((Nat → Nat → Int32) × (Int32)) :=
  fX12_wrong_l7 σ R t FUx I x1 (0 : Int32) (0 : Int32) (0 : Int32)
theorem kX12_wrong {G : Gx} {l : Launch} {σ : Shp} {I : Nat → Nat → Int32} {J : Nat → Nat → Int64} {D : Nat → Nat → UInt64} {R : Nat → Nat → Option Nat} {t : Nat} {x1 : Int32} {I9 : Nat → Nat → Int32} {r9 : Int32} (h : fX12_wrong σ I R t x1 = some (I9, r9)) : Con G l yX12_wrong cX12_wrong 6 (some .int) 1 20 [vR (some t), vI x1] (σ, I, J, D, R) (σ, I9, J, D, R) (some (vI r9)) := by
  unfold fX12_wrong at h
  refine Con.mk (by decide +kernel) rfl (Nat.le_of_ble_eq_true rfl) ?_
  show WX12_wrong G l σ (σ, I9, J, D, R) (some (vI r9)) (σ, I, J, D, R) 0 _ []
  refine r_iconst (pc := 0) dX12_wrong_0 kc_iconst_0 ?_
  refine r_istore_n (pc := 1) (L' := [(2, vI (0 : Int32)), (0, vR (some t)), (1, vI x1)]) dX12_wrong_1 rfl (by decide) rfl ?_
  refine r_iconst (pc := 2) dX12_wrong_2 kc_iconst_0 ?_
  refine r_istore_n (pc := 3) (L' := [(3, vI (0 : Int32)), (2, vI (0 : Int32)), (0, vR (some t)), (1, vI x1)]) dX12_wrong_3 rfl (by decide) rfl ?_
  refine r_iconst (pc := 4) dX12_wrong_4 kc_iconst_0 ?_
  refine r_istore (pc := 5) (L' := [(4, vI (0 : Int32)), (3, vI (0 : Int32)), (2, vI (0 : Int32)), (0, vR (some t)), (1, vI x1)]) dX12_wrong_5 (by decide) rfl ?_
  refine r_sub [3, 4, 2, 1, 0] rfl ?_
  exact wX12_wrong_l7 _ _ _ _ _ _ h
abbrev WX12_formed (G : Gx) (l : Launch) (σ0 : Shp) (X1 : Stt) (rv : Option SV) : Stt → Nat → List (Nat × SV) → List SV → Prop := Wm G l yX12_formed cX12_formed 2 (some .int) (fun _ => True) (rmx 2 45 σ0 X1.1) σ0 (Qmx G σ0 X1 rv)
def fX12_formed (σ : Shp) (I : Nat → Nat → Int32) (R : Nat → Nat → Option Nat) (t : Nat) (x1 : Int32) : Option ((Nat → Nat → Int32) × (Int32)) :=
  if (fX12_in x1 (0 : Int32) (3 : Int32)) = 0 then
    some (I, (0 : Int32))
  else
    if kdx σ t = 13 then
    (fX12_wrong σ I R t x1).bind fun (I2, r3) =>
    some (I2, r3)
    else none
theorem kX12_formed {G : Gx} {l : Launch} {σ : Shp} {I : Nat → Nat → Int32} {J : Nat → Nat → Int64} {D : Nat → Nat → UInt64} {R : Nat → Nat → Option Nat} {t : Nat} {x1 : Int32} {I9 : Nat → Nat → Int32} {r9 : Int32} (h : fX12_formed σ I R t x1 = some (I9, r9)) : Con G l yX12_formed cX12_formed 2 (some .int) 2 45 [vR (some t), vI x1] (σ, I, J, D, R) (σ, I9, J, D, R) (some (vI r9)) := by
  unfold fX12_formed at h
  refine Con.mk (by decide +kernel) rfl (Nat.le_of_ble_eq_true rfl) ?_
  show WX12_formed G l σ (σ, I9, J, D, R) (some (vI r9)) (σ, I, J, D, R) 0 _ []
  refine r_iload_n (pc := 0) dX12_formed_0 rfl 1 rfl ?_
  refine r_iconst (pc := 1) dX12_formed_1 kc_iconst_0 ?_
  refine r_iconst (pc := 2) dX12_formed_2 kc_iconst_3 ?_
  refine r_callS1 (pc := 3) (av := [vI x1, vI (0 : Int32), vI (3 : Int32)]) (S := []) dX12_formed_3 (kX12_in rfl) mkX12_322 mwX12_in rfl ⟨Nat.le_of_ble_eq_true rfl, Nat.le_of_ble_eq_true rfl⟩ (Nat.le_of_ble_eq_true rfl) ⟨Nat.le_refl _, Nat.le_refl _⟩ (fun b => b) ?_
  refine r_if_eq (pc := 6) (tgt := 17) dX12_formed_6 rfl (fun c => ?_) (fun c => ?_)
  · have h := it h c
    refine r_iconst (pc := 17) dX12_formed_17 kc_iconst_0 ?_
    cases h
    exact r_iret dX12_formed_18
  · have h := ie h c
    refine r_aload_n (pc := 9) dX12_formed_9 rfl 0 rfl ?_
    refine r_iload_n (pc := 10) dX12_formed_10 rfl 1 rfl ?_
    obtain ⟨g1, h⟩ := gd h
    obtain ⟨⟨I2, r3⟩, hc4, h⟩ := ob h
    refine r_callV1 (pc := 11) (av := [vI x1]) (S := []) dX12_formed_11 (kX12_wrong hc4) g1 rfl mkX12_481 mwX12_wrong rfl ⟨Nat.le_of_ble_eq_true rfl, Nat.le_of_ble_eq_true rfl⟩ (Nat.le_of_ble_eq_true rfl) ⟨Nat.le_refl _, Nat.le_refl _⟩ (fun b => b) ?_
    refine r_goto (pc := 14) (tgt := 18) dX12_formed_14 rfl ?_
    cases h
    exact r_iret dX12_formed_18
abbrev WX12_endOf (G : Gx) (l : Launch) (σ0 : Shp) (X1 : Stt) (rv : Option SV) : Stt → Nat → List (Nat × SV) → List SV → Prop := Wm G l yX12_endOf cX12_endOf 6 (some .int) (fun _ => True) (rmx 1 20 σ0 X1.1) σ0 (Qmx G σ0 X1 rv)
def fX12_endOf_l5  (σ : Shp) (I : Nat → Nat → Int32) (R : Nat → Nat → Option Nat) (t : Nat) : Nat → (Int32) → (Int32) → (Int32) → Option ((Int32))
  | 0, _, _, _ => none
  | n + 1, x1, x3, x4 =>
    if x3 ≤ 0 then
      some x4
    else
      let v1 := x4 + (1 : Int32)
      if kdx σ t = 13 then
      ((R t 34) : Option Nat).bind fun a3 =>
      if kdx σ a3 = 20 then
      if ¬ ((((40 : Int32) * x1) + v1) < 0 ∨ lnx σ a3 ≤ Int32.toNatClampNeg (((40 : Int32) * x1) + v1)) then
      let v6 := (I a3 (Int32.toNatClampNeg (((40 : Int32) * x1) + v1)))
      if v6 = 0 then
        let v9 := (x3 + (-1 : Int32))
        fX12_endOf_l5 σ I R t n x1 v9 v1
      else
        if (fX12_hasBody v6) = 0 then
          let v7 := (x3 + (0 : Int32))
          fX12_endOf_l5 σ I R t n x1 v7 v1
        else
          let v8 := (x3 + (1 : Int32))
          fX12_endOf_l5 σ I R t n x1 v8 v1
      else none
      else none
      else none
theorem wX12_endOf_l5 {G : Gx} {l : Launch} {σ : Shp} {I : Nat → Nat → Int32} {J : Nat → Nat → Int64} {D : Nat → Nat → UInt64} {R : Nat → Nat → Option Nat} {t : Nat} {r9 : Int32} : ∀ (n : Nat) (x1 : Int32) (x3 : Int32) (x4 : Int32), fX12_endOf_l5 σ I R t n x1 x3 x4 = some r9 → WX12_endOf G l σ (σ, I, J, D, R) (some (vI r9)) (σ, I, J, D, R) 5 [(0, vR (some t)), (1, vI x1), (3, vI x3), (4, vI x4)] [] := by
  intro n
  induction n with
  | zero =>
    intro x1 x3 x4 h
    have h : none = some _ := h
    cases h
  | succ n ih =>
    intro x1 x3 x4 h
    rw [fX12_endOf_l5] at h
    refine r_iload_n (pc := 5) dX12_endOf_5 rfl 2 rfl ?_
    refine r_if_le (pc := 6) (tgt := 54) dX12_endOf_6 rfl (fun c => ?_) (fun c => ?_)
    · have h := it h c
      refine r_iload (pc := 54) dX12_endOf_54 3 rfl ?_
      cases h
      exact r_iret dX12_endOf_56
    · have h := ie h c
      refine r_iinc (pc := 9) (v := (x4 + (1 : Int32))) (L' := [(4, vI (x4 + (1 : Int32))), (0, vR (some t)), (1, vI x1), (3, vI x3)]) dX12_endOf_9 3 rfl (kc_inc_1 _) (by decide) rfl ?_
      refine r_aload_n (pc := 12) dX12_endOf_12 rfl 1 rfl ?_
      obtain ⟨g2, h⟩ := gd h
      obtain ⟨a3, ha3, h⟩ := ob h
      refine r_getS (pc := 13) dX12_endOf_13 fgX12_77 rfl g2 ha3 ?_
      refine r_bipush (pc := 16) dX12_endOf_16 kc_bipush_40 ?_
      refine r_iload_n (pc := 18) dX12_endOf_18 rfl 2 rfl ?_
      refine r_imul (pc := 19) dX12_endOf_19 ?_
      refine r_iload (pc := 20) dX12_endOf_20 0 rfl ?_
      refine r_iadd (pc := 22) dX12_endOf_22 ?_
      obtain ⟨g4, h⟩ := gd h
      obtain ⟨g5, h⟩ := gd h
      refine r_iaload (pc := 23) dX12_endOf_23 g4 g5 ?_
      refine r_istore (pc := 24) (L' := [(5, vI (I a3 (Int32.toNatClampNeg (((40 : Int32) * x1) + (x4 + (1 : Int32)))))), (4, vI (x4 + (1 : Int32))), (0, vR (some t)), (1, vI x1), (3, vI x3)]) dX12_endOf_24 (by decide) rfl ?_
      refine r_iload_n (pc := 26) dX12_endOf_26 rfl 4 rfl ?_
      refine r_iload (pc := 27) dX12_endOf_27 0 rfl ?_
      refine r_ifne (pc := 29) (tgt := 36) dX12_endOf_29 rfl (fun c => ?_) (fun c => ?_)
      · have h := ie h c
        refine r_iload (pc := 36) dX12_endOf_36 0 rfl ?_
        refine r_callS1 (pc := 38) (av := [vI (I a3 (Int32.toNatClampNeg (((40 : Int32) * x1) + (x4 + (1 : Int32)))))]) (S := [vI x3]) dX12_endOf_38 (kX12_hasBody rfl) mkX12_478 mwX12_hasBody rfl ⟨Nat.le_of_ble_eq_true rfl, Nat.le_of_ble_eq_true rfl⟩ (Nat.le_of_ble_eq_true rfl) ⟨Nat.le_refl _, Nat.le_refl _⟩ (fun b => b) ?_
        refine r_if_eq (pc := 41) (tgt := 48) dX12_endOf_41 rfl (fun c => ?_) (fun c => ?_)
        · have h := it h c
          refine r_iconst (pc := 48) dX12_endOf_48 kc_iconst_0 ?_
          refine r_iadd (pc := 49) dX12_endOf_49 ?_
          refine r_istore_n (pc := 50) (L' := [(3, vI (x3 + (0 : Int32))), (5, vI (I a3 (Int32.toNatClampNeg (((40 : Int32) * x1) + (x4 + (1 : Int32)))))), (4, vI (x4 + (1 : Int32))), (0, vR (some t)), (1, vI x1)]) dX12_endOf_50 rfl (by decide) rfl ?_
          refine r_goto (pc := 51) (tgt := 5) dX12_endOf_51 rfl ?_
          refine r_sub [3, 4, 0, 2] rfl ?_
          exact ih _ _ _ h
        · have h := ie h c
          refine r_iconst (pc := 44) dX12_endOf_44 kc_iconst_1 ?_
          refine r_goto (pc := 45) (tgt := 49) dX12_endOf_45 rfl ?_
          refine r_iadd (pc := 49) dX12_endOf_49 ?_
          refine r_istore_n (pc := 50) (L' := [(3, vI (x3 + (1 : Int32))), (5, vI (I a3 (Int32.toNatClampNeg (((40 : Int32) * x1) + (x4 + (1 : Int32)))))), (4, vI (x4 + (1 : Int32))), (0, vR (some t)), (1, vI x1)]) dX12_endOf_50 rfl (by decide) rfl ?_
          refine r_goto (pc := 51) (tgt := 5) dX12_endOf_51 rfl ?_
          refine r_sub [3, 4, 0, 2] rfl ?_
          exact ih _ _ _ h
      · have h := it h c
        refine r_iconst (pc := 32) dX12_endOf_32 kc_iconst_m1 ?_
        refine r_goto (pc := 33) (tgt := 49) dX12_endOf_33 rfl ?_
        refine r_iadd (pc := 49) dX12_endOf_49 ?_
        refine r_istore_n (pc := 50) (L' := [(3, vI (x3 + (-1 : Int32))), (5, vI (I a3 (Int32.toNatClampNeg (((40 : Int32) * x1) + (x4 + (1 : Int32)))))), (4, vI (x4 + (1 : Int32))), (0, vR (some t)), (1, vI x1)]) dX12_endOf_50 rfl (by decide) rfl ?_
        refine r_goto (pc := 51) (tgt := 5) dX12_endOf_51 rfl ?_
        refine r_sub [3, 4, 0, 2] rfl ?_
        exact ih _ _ _ h
def fX12_endOf (σ : Shp) (I : Nat → Nat → Int32) (R : Nat → Nat → Option Nat) (t : Nat) (x1 : Int32) (x2 : Int32) : Option ((Int32)) :=
  fX12_endOf_l5 σ I R t FUx x1 (1 : Int32) x2
theorem kX12_endOf {G : Gx} {l : Launch} {σ : Shp} {I : Nat → Nat → Int32} {J : Nat → Nat → Int64} {D : Nat → Nat → UInt64} {R : Nat → Nat → Option Nat} {t : Nat} {x1 : Int32} {x2 : Int32} {r9 : Int32} (h : fX12_endOf σ I R t x1 x2 = some r9) : Con G l yX12_endOf cX12_endOf 6 (some .int) 1 20 [vR (some t), vI x1, vI x2] (σ, I, J, D, R) (σ, I, J, D, R) (some (vI r9)) := by
  unfold fX12_endOf at h
  refine Con.mk (by decide +kernel) rfl (Nat.le_of_ble_eq_true rfl) ?_
  show WX12_endOf G l σ (σ, I, J, D, R) (some (vI r9)) (σ, I, J, D, R) 0 _ []
  refine r_iconst (pc := 0) dX12_endOf_0 kc_iconst_1 ?_
  refine r_istore_n (pc := 1) (L' := [(3, vI (1 : Int32)), (0, vR (some t)), (1, vI x1), (2, vI x2)]) dX12_endOf_1 rfl (by decide) rfl ?_
  refine r_iload_n (pc := 2) dX12_endOf_2 rfl 3 rfl ?_
  refine r_istore (pc := 3) (L' := [(4, vI x2), (3, vI (1 : Int32)), (0, vR (some t)), (1, vI x1), (2, vI x2)]) dX12_endOf_3 (by decide) rfl ?_
  refine r_sub [2, 3, 1, 0] rfl ?_
  exact wX12_endOf_l5 _ _ _ _ h
abbrev WX12_note (G : Gx) (l : Launch) (σ0 : Shp) (X1 : Stt) (rv : Option SV) : Stt → Nat → List (Nat × SV) → List SV → Prop := Wm G l yX12_note cX12_note 4 none (fun _ => True) (rmx 0 0 σ0 X1.1) σ0 (Qmx G σ0 X1 rv)
def fX12_note (σ : Shp) (I : Nat → Nat → Int32) (J : Nat → Nat → Int64) (R : Nat → Nat → Option Nat) (t : Nat) (x1 : Int32) (x2 : Int64) : Option ((Nat → Nat → Int32) × (Nat → Nat → Int64)) :=
  if kdx σ t = 13 then
  ((R t 55) : Option Nat).bind fun a2 =>
  if kdx σ a2 = 20 then
  if ¬ ((I t 54) < 0 ∨ lnx σ a2 ≤ Int32.toNatClampNeg (I t 54)) then
  let I5 := u2 I a2 (Int32.toNatClampNeg (I t 54)) x1
  ((R t 56) : Option Nat).bind fun a6 =>
  if kdx σ a6 = 21 then
  if ¬ ((I5 t 54) < 0 ∨ lnx σ a6 ≤ Int32.toNatClampNeg (I5 t 54)) then
  let J9 := u2 J a6 (Int32.toNatClampNeg (I5 t 54)) x2
  let I10 := u2 I5 t 54 ((I5 t 54) + (1 : Int32))
  some (I10, J9)
  else none
  else none
  else none
  else none
  else none
theorem kX12_note {G : Gx} {l : Launch} {σ : Shp} {I : Nat → Nat → Int32} {J : Nat → Nat → Int64} {D : Nat → Nat → UInt64} {R : Nat → Nat → Option Nat} {t : Nat} {x1 : Int32} {x2 : Int64} {I9 : Nat → Nat → Int32} {J9 : Nat → Nat → Int64} (h : fX12_note σ I J R t x1 x2 = some (I9, J9)) : Con G l yX12_note cX12_note 4 none 0 0 [vR (some t), vI x1, vL x2] (σ, I, J, D, R) (σ, I9, J9, D, R) none := by
  unfold fX12_note at h
  refine Con.mk (by decide +kernel) rfl (Nat.le_of_ble_eq_true rfl) ?_
  show WX12_note G l σ (σ, I9, J9, D, R) none (σ, I, J, D, R) 0 _ []
  refine r_aload_n (pc := 0) dX12_note_0 rfl 0 rfl ?_
  obtain ⟨g1, h⟩ := gd h
  obtain ⟨a2, ha2, h⟩ := ob h
  refine r_getS (pc := 1) dX12_note_1 fgX12_134 rfl g1 ha2 ?_
  refine r_aload_n (pc := 4) dX12_note_4 rfl 0 rfl ?_
  refine r_getI (pc := 5) dX12_note_5 fgX12_484 rfl g1 ?_
  refine r_iload_n (pc := 8) dX12_note_8 rfl 1 rfl ?_
  obtain ⟨g3, h⟩ := gd h
  obtain ⟨g4, h⟩ := gd h
  refine r_iastore (pc := 9) dX12_note_9 g3 g4 ?_
  refine r_aload_n (pc := 10) dX12_note_10 rfl 0 rfl ?_
  obtain ⟨a6, ha6, h⟩ := ob h
  refine r_getS (pc := 11) dX12_note_11 fgX12_137 rfl g1 ha6 ?_
  refine r_aload_n (pc := 14) dX12_note_14 rfl 0 rfl ?_
  refine r_getI (pc := 15) dX12_note_15 fgX12_484 rfl g1 ?_
  refine r_lload_n (pc := 18) dX12_note_18 rfl 2 rfl ?_
  obtain ⟨g7, h⟩ := gd h
  obtain ⟨g8, h⟩ := gd h
  refine r_lastore (pc := 19) dX12_note_19 g7 g8 ?_
  refine r_aload_n (pc := 20) dX12_note_20 rfl 0 rfl ?_
  refine r_dup (pc := 21) dX12_note_21 rfl ?_
  refine r_getI (pc := 22) dX12_note_22 fgX12_484 rfl g1 ?_
  refine r_iconst (pc := 25) dX12_note_25 kc_iconst_1 ?_
  refine r_iadd (pc := 26) dX12_note_26 ?_
  refine r_putI (pc := 27) dX12_note_27 fwX12_484 rfl g1 ?_
  cases h
  exact r_vret dX12_note_30
abbrev WX12_setCell (G : Gx) (l : Launch) (σ0 : Shp) (X1 : Stt) (rv : Option SV) : Stt → Nat → List (Nat × SV) → List SV → Prop := Wm G l yX12_setCell cX12_setCell 4 none (fun _ => True) (rmx 1 23 σ0 X1.1) σ0 (Qmx G σ0 X1 rv)
def fX12_setCell (σ : Shp) (I : Nat → Nat → Int32) (J : Nat → Nat → Int64) (R : Nat → Nat → Option Nat) (t : Nat) (x1 : Int32) (x2 : Int64) : Option ((Nat → Nat → Int32) × (Nat → Nat → Int64)) :=
  if kdx σ t = 13 then
  ((R t 8) : Option Nat).bind fun a2 =>
  if kdx σ a2 = 21 then
  if ¬ (x1 < 0 ∨ lnx σ a2 ≤ Int32.toNatClampNeg x1) then
  (fX12_note σ I J R t x1 (J a2 (Int32.toNatClampNeg x1))).bind fun (I5, J6) =>
  let J8 := u2 J6 a2 (Int32.toNatClampNeg x1) x2
  some (I5, J8)
  else none
  else none
  else none
theorem kX12_setCell {G : Gx} {l : Launch} {σ : Shp} {I : Nat → Nat → Int32} {J : Nat → Nat → Int64} {D : Nat → Nat → UInt64} {R : Nat → Nat → Option Nat} {t : Nat} {x1 : Int32} {x2 : Int64} {I9 : Nat → Nat → Int32} {J9 : Nat → Nat → Int64} (h : fX12_setCell σ I J R t x1 x2 = some (I9, J9)) : Con G l yX12_setCell cX12_setCell 4 none 1 23 [vR (some t), vI x1, vL x2] (σ, I, J, D, R) (σ, I9, J9, D, R) none := by
  unfold fX12_setCell at h
  refine Con.mk (by decide +kernel) rfl (Nat.le_of_ble_eq_true rfl) ?_
  show WX12_setCell G l σ (σ, I9, J9, D, R) none (σ, I, J, D, R) 0 _ []
  refine r_aload_n (pc := 0) dX12_setCell_0 rfl 0 rfl ?_
  refine r_iload_n (pc := 1) dX12_setCell_1 rfl 1 rfl ?_
  refine r_aload_n (pc := 2) dX12_setCell_2 rfl 0 rfl ?_
  obtain ⟨g1, h⟩ := gd h
  obtain ⟨a2, ha2, h⟩ := ob h
  refine r_getS (pc := 3) dX12_setCell_3 fgX12_26 rfl g1 ha2 ?_
  refine r_iload_n (pc := 6) dX12_setCell_6 rfl 1 rfl ?_
  obtain ⟨g3, h⟩ := gd h
  obtain ⟨g4, h⟩ := gd h
  refine r_laload (pc := 7) dX12_setCell_7 g3 g4 ?_
  obtain ⟨⟨I5, J6⟩, hc7, h⟩ := ob h
  refine r_callV0 (pc := 8) (av := [vI x1, vL (J a2 (Int32.toNatClampNeg x1))]) (S := []) dX12_setCell_8 (kX12_note hc7) g1 rfl mkX12_487 mwX12_note rfl ⟨Nat.le_of_ble_eq_true rfl, Nat.le_of_ble_eq_true rfl⟩ (Nat.le_of_ble_eq_true rfl) ⟨Nat.le_refl _, Nat.le_refl _⟩ (fun b => b) ?_
  refine r_aload_n (pc := 11) dX12_setCell_11 rfl 0 rfl ?_
  refine r_getS (pc := 12) dX12_setCell_12 fgX12_26 rfl g1 ha2 ?_
  refine r_iload_n (pc := 15) dX12_setCell_15 rfl 1 rfl ?_
  refine r_lload_n (pc := 16) dX12_setCell_16 rfl 2 rfl ?_
  refine r_lastore (pc := 17) dX12_setCell_17 g3 g4 ?_
  cases h
  exact r_vret dX12_setCell_18
abbrev WX12_changeStock (G : Gx) (l : Launch) (σ0 : Shp) (X1 : Stt) (rv : Option SV) : Stt → Nat → List (Nat × SV) → List SV → Prop := Wm G l yX12_changeStock cX12_changeStock 4 none (fun _ => True) (rmx 1 23 σ0 X1.1) σ0 (Qmx G σ0 X1 rv)
def fX12_changeStock (σ : Shp) (I : Nat → Nat → Int32) (J : Nat → Nat → Int64) (R : Nat → Nat → Option Nat) (t : Nat) (x1 : Int32) (x2 : Int64) : Option ((Nat → Nat → Int32) × (Nat → Nat → Int64)) :=
  if kdx σ t = 13 then
  ((R t 38) : Option Nat).bind fun a2 =>
  if kdx σ a2 = 21 then
  if ¬ (x1 < 0 ∨ lnx σ a2 ≤ Int32.toNatClampNeg x1) then
  (fX12_note σ I J R t ((-1 : Int32) - x1) (J a2 (Int32.toNatClampNeg x1))).bind fun (I5, J6) =>
  let J8 := u2 J6 a2 (Int32.toNatClampNeg x1) x2
  some (I5, J8)
  else none
  else none
  else none
theorem kX12_changeStock {G : Gx} {l : Launch} {σ : Shp} {I : Nat → Nat → Int32} {J : Nat → Nat → Int64} {D : Nat → Nat → UInt64} {R : Nat → Nat → Option Nat} {t : Nat} {x1 : Int32} {x2 : Int64} {I9 : Nat → Nat → Int32} {J9 : Nat → Nat → Int64} (h : fX12_changeStock σ I J R t x1 x2 = some (I9, J9)) : Con G l yX12_changeStock cX12_changeStock 4 none 1 23 [vR (some t), vI x1, vL x2] (σ, I, J, D, R) (σ, I9, J9, D, R) none := by
  unfold fX12_changeStock at h
  refine Con.mk (by decide +kernel) rfl (Nat.le_of_ble_eq_true rfl) ?_
  show WX12_changeStock G l σ (σ, I9, J9, D, R) none (σ, I, J, D, R) 0 _ []
  refine r_aload_n (pc := 0) dX12_changeStock_0 rfl 0 rfl ?_
  refine r_iconst (pc := 1) dX12_changeStock_1 kc_iconst_m1 ?_
  refine r_iload_n (pc := 2) dX12_changeStock_2 rfl 1 rfl ?_
  refine r_isub (pc := 3) dX12_changeStock_3 ?_
  refine r_aload_n (pc := 4) dX12_changeStock_4 rfl 0 rfl ?_
  obtain ⟨g1, h⟩ := gd h
  obtain ⟨a2, ha2, h⟩ := ob h
  refine r_getS (pc := 5) dX12_changeStock_5 fgX12_89 rfl g1 ha2 ?_
  refine r_iload_n (pc := 8) dX12_changeStock_8 rfl 1 rfl ?_
  obtain ⟨g3, h⟩ := gd h
  obtain ⟨g4, h⟩ := gd h
  refine r_laload (pc := 9) dX12_changeStock_9 g3 g4 ?_
  obtain ⟨⟨I5, J6⟩, hc7, h⟩ := ob h
  refine r_callV0 (pc := 10) (av := [vI ((-1 : Int32) - x1), vL (J a2 (Int32.toNatClampNeg x1))]) (S := []) dX12_changeStock_10 (kX12_note hc7) g1 rfl mkX12_487 mwX12_note rfl ⟨Nat.le_of_ble_eq_true rfl, Nat.le_of_ble_eq_true rfl⟩ (Nat.le_of_ble_eq_true rfl) ⟨Nat.le_refl _, Nat.le_refl _⟩ (fun b => b) ?_
  refine r_aload_n (pc := 13) dX12_changeStock_13 rfl 0 rfl ?_
  refine r_getS (pc := 14) dX12_changeStock_14 fgX12_89 rfl g1 ha2 ?_
  refine r_iload_n (pc := 17) dX12_changeStock_17 rfl 1 rfl ?_
  refine r_lload_n (pc := 18) dX12_changeStock_18 rfl 2 rfl ?_
  refine r_lastore (pc := 19) dX12_changeStock_19 g3 g4 ?_
  cases h
  exact r_vret dX12_changeStock_20
abbrev WX12_undoTo (G : Gx) (l : Launch) (σ0 : Shp) (X1 : Stt) (rv : Option SV) : Stt → Nat → List (Nat × SV) → List SV → Prop := Wm G l yX12_undoTo cX12_undoTo 3 none (fun _ => True) (rmx 0 0 σ0 X1.1) σ0 (Qmx G σ0 X1 rv)
def fX12_undoTo_l0  (σ : Shp) (R : Nat → Nat → Option Nat) (t : Nat) : Nat → (Nat → Nat → Int32) → (Nat → Nat → Int64) → (Int32) → Option ((Nat → Nat → Int32) × (Nat → Nat → Int64))
  | 0, _, _, _ => none
  | n + 1, I, J, x1 =>
    if kdx σ t = 13 then
    if (I t 54) ≤ x1 then
      some (I, J)
    else
      let I2 := u2 I t 54 ((I t 54) - (1 : Int32))
      ((R t 55) : Option Nat).bind fun a3 =>
      if kdx σ a3 = 20 then
      if ¬ ((I2 t 54) < 0 ∨ lnx σ a3 ≤ Int32.toNatClampNeg (I2 t 54)) then
      let v6 := (I2 a3 (Int32.toNatClampNeg (I2 t 54)))
      if 0 ≤ v6 then
        ((R t 8) : Option Nat).bind fun a7 =>
        ((R t 56) : Option Nat).bind fun a8 =>
        if kdx σ a8 = 21 then
        if ¬ ((I2 t 54) < 0 ∨ lnx σ a8 ≤ Int32.toNatClampNeg (I2 t 54)) then
        if kdx σ a7 = 21 then
        if ¬ (v6 < 0 ∨ lnx σ a7 ≤ Int32.toNatClampNeg v6) then
        let J13 := u2 J a7 (Int32.toNatClampNeg v6) (J a8 (Int32.toNatClampNeg (I2 t 54)))
        fX12_undoTo_l0 σ R t n I2 J13 x1
        else none
        else none
        else none
        else none
      else
        ((R t 38) : Option Nat).bind fun a14 =>
        ((R t 56) : Option Nat).bind fun a15 =>
        if kdx σ a15 = 21 then
        if ¬ ((I2 t 54) < 0 ∨ lnx σ a15 ≤ Int32.toNatClampNeg (I2 t 54)) then
        if kdx σ a14 = 21 then
        if ¬ (((-1 : Int32) - v6) < 0 ∨ lnx σ a14 ≤ Int32.toNatClampNeg ((-1 : Int32) - v6)) then
        let J20 := u2 J a14 (Int32.toNatClampNeg ((-1 : Int32) - v6)) (J a15 (Int32.toNatClampNeg (I2 t 54)))
        fX12_undoTo_l0 σ R t n I2 J20 x1
        else none
        else none
        else none
        else none
      else none
      else none
    else none
theorem wX12_undoTo_l0 {G : Gx} {l : Launch} {σ : Shp} {D : Nat → Nat → UInt64} {R : Nat → Nat → Option Nat} {t : Nat} {I9 : Nat → Nat → Int32} {J9 : Nat → Nat → Int64} : ∀ (n : Nat) (I : Nat → Nat → Int32) (J : Nat → Nat → Int64) (x1 : Int32), fX12_undoTo_l0 σ R t n I J x1 = some (I9, J9) → WX12_undoTo G l σ (σ, I9, J9, D, R) none (σ, I, J, D, R) 0 [(0, vR (some t)), (1, vI x1)] [] := by
  intro n
  induction n with
  | zero =>
    intro I J x1 h
    have h : none = some _ := h
    cases h
  | succ n ih =>
    intro I J x1 h
    rw [fX12_undoTo_l0] at h
    refine r_aload_n (pc := 0) dX12_undoTo_0 rfl 0 rfl ?_
    obtain ⟨g1, h⟩ := gd h
    refine r_getI (pc := 1) dX12_undoTo_1 fgX12_484 rfl g1 ?_
    refine r_iload_n (pc := 4) dX12_undoTo_4 rfl 1 rfl ?_
    refine r_icmp_le (pc := 5) (tgt := 70) dX12_undoTo_5 rfl (fun c => ?_) (fun c => ?_)
    · have h := it h c
      cases h
      exact r_vret dX12_undoTo_70
    · have h := ie h c
      refine r_aload_n (pc := 8) dX12_undoTo_8 rfl 0 rfl ?_
      refine r_dup (pc := 9) dX12_undoTo_9 rfl ?_
      refine r_getI (pc := 10) dX12_undoTo_10 fgX12_484 rfl g1 ?_
      refine r_iconst (pc := 13) dX12_undoTo_13 kc_iconst_1 ?_
      refine r_isub (pc := 14) dX12_undoTo_14 ?_
      refine r_putI (pc := 15) dX12_undoTo_15 fwX12_484 rfl g1 ?_
      refine r_aload_n (pc := 18) dX12_undoTo_18 rfl 0 rfl ?_
      obtain ⟨a3, ha3, h⟩ := ob h
      refine r_getS (pc := 19) dX12_undoTo_19 fgX12_134 rfl g1 ha3 ?_
      refine r_aload_n (pc := 22) dX12_undoTo_22 rfl 0 rfl ?_
      refine r_getI (pc := 23) dX12_undoTo_23 fgX12_484 rfl g1 ?_
      obtain ⟨g4, h⟩ := gd h
      obtain ⟨g5, h⟩ := gd h
      refine r_iaload (pc := 26) dX12_undoTo_26 g4 g5 ?_
      refine r_istore_n (pc := 27) (L' := [(2, vI ((u2 I t 54 ((I t 54) - (1 : Int32))) a3 (Int32.toNatClampNeg ((u2 I t 54 ((I t 54) - (1 : Int32))) t 54)))), (0, vR (some t)), (1, vI x1)]) dX12_undoTo_27 rfl (by decide) rfl ?_
      refine r_iload_n (pc := 28) dX12_undoTo_28 rfl 0 rfl ?_
      refine r_ifge (pc := 29) (tgt := 52) dX12_undoTo_29 rfl (fun c => ?_) (fun c => ?_)
      · have h := it h c
        refine r_aload_n (pc := 52) dX12_undoTo_52 rfl 1 rfl ?_
        obtain ⟨a7, ha7, h⟩ := ob h
        refine r_getS (pc := 53) dX12_undoTo_53 fgX12_26 rfl g1 ha7 ?_
        refine r_iload_n (pc := 56) dX12_undoTo_56 rfl 0 rfl ?_
        refine r_aload_n (pc := 57) dX12_undoTo_57 rfl 1 rfl ?_
        obtain ⟨a8, ha8, h⟩ := ob h
        refine r_getS (pc := 58) dX12_undoTo_58 fgX12_137 rfl g1 ha8 ?_
        refine r_aload_n (pc := 61) dX12_undoTo_61 rfl 1 rfl ?_
        refine r_getI (pc := 62) dX12_undoTo_62 fgX12_484 rfl g1 ?_
        obtain ⟨g9, h⟩ := gd h
        obtain ⟨g10, h⟩ := gd h
        refine r_laload (pc := 65) dX12_undoTo_65 g9 g10 ?_
        obtain ⟨g11, h⟩ := gd h
        obtain ⟨g12, h⟩ := gd h
        refine r_lastore (pc := 66) dX12_undoTo_66 g11 g12 ?_
        refine r_goto (pc := 67) (tgt := 0) dX12_undoTo_67 rfl ?_
        refine r_sub [1, 2] rfl ?_
        exact ih _ _ _ h
      · have h := ie h c
        refine r_aload_n (pc := 32) dX12_undoTo_32 rfl 1 rfl ?_
        obtain ⟨a14, ha14, h⟩ := ob h
        refine r_getS (pc := 33) dX12_undoTo_33 fgX12_89 rfl g1 ha14 ?_
        refine r_iconst (pc := 36) dX12_undoTo_36 kc_iconst_m1 ?_
        refine r_iload_n (pc := 37) dX12_undoTo_37 rfl 0 rfl ?_
        refine r_isub (pc := 38) dX12_undoTo_38 ?_
        refine r_aload_n (pc := 39) dX12_undoTo_39 rfl 1 rfl ?_
        obtain ⟨a15, ha15, h⟩ := ob h
        refine r_getS (pc := 40) dX12_undoTo_40 fgX12_137 rfl g1 ha15 ?_
        refine r_aload_n (pc := 43) dX12_undoTo_43 rfl 1 rfl ?_
        refine r_getI (pc := 44) dX12_undoTo_44 fgX12_484 rfl g1 ?_
        obtain ⟨g16, h⟩ := gd h
        obtain ⟨g17, h⟩ := gd h
        refine r_laload (pc := 47) dX12_undoTo_47 g16 g17 ?_
        obtain ⟨g18, h⟩ := gd h
        obtain ⟨g19, h⟩ := gd h
        refine r_lastore (pc := 48) dX12_undoTo_48 g18 g19 ?_
        refine r_goto (pc := 49) (tgt := 67) dX12_undoTo_49 rfl ?_
        refine r_goto (pc := 67) (tgt := 0) dX12_undoTo_67 rfl ?_
        refine r_sub [1, 2] rfl ?_
        exact ih _ _ _ h
def fX12_undoTo (σ : Shp) (I : Nat → Nat → Int32) (J : Nat → Nat → Int64) (R : Nat → Nat → Option Nat) (t : Nat) (x1 : Int32) : Option ((Nat → Nat → Int32) × (Nat → Nat → Int64)) :=
  fX12_undoTo_l0 σ R t FUx I J x1
theorem kX12_undoTo {G : Gx} {l : Launch} {σ : Shp} {I : Nat → Nat → Int32} {J : Nat → Nat → Int64} {D : Nat → Nat → UInt64} {R : Nat → Nat → Option Nat} {t : Nat} {x1 : Int32} {I9 : Nat → Nat → Int32} {J9 : Nat → Nat → Int64} (h : fX12_undoTo σ I J R t x1 = some (I9, J9)) : Con G l yX12_undoTo cX12_undoTo 3 none 0 0 [vR (some t), vI x1] (σ, I, J, D, R) (σ, I9, J9, D, R) none := by
  unfold fX12_undoTo at h
  refine Con.mk (by decide +kernel) rfl (Nat.le_of_ble_eq_true rfl) ?_
  show WX12_undoTo G l σ (σ, I9, J9, D, R) none (σ, I, J, D, R) 0 _ []
  refine r_sub [0, 1] rfl ?_
  exact wX12_undoTo_l0 _ _ _ _ h
abbrev WX12_fails (G : Gx) (l : Launch) (σ0 : Shp) (X1 : Stt) (rv : Option SV) : Stt → Nat → List (Nat × SV) → List SV → Prop := Wm G l yX12_fails cX12_fails 3 none (fun _ => True) (rmx 0 0 σ0 X1.1) σ0 (Qmx G σ0 X1 rv)
def fX12_fails_b22  (σ : Shp) (t : Nat) (I : Nat → Nat → Int32) (s0 : Option Nat) (s1 : Int32) : Option ((Nat → Nat → Int32)) :=
  (s0 : Option Nat).bind fun a4 =>
  if kdx σ a4 = 13 then
  let I6 := u2 I a4 61 s1
  if kdx σ t = 13 then
  let I8 := u2 I6 t 62 (I6 t 58)
  let I9 := u2 I8 t 63 (0 : Int32)
  let I10 := u2 I9 t 70 ((I9 t 70) + (1 : Int32))
  let I11 := u2 I10 t 1 ((I10 t 1) + (1 : Int32))
  some I11
  else none
  else none
theorem wX12_fails_b22 {G : Gx} {l : Launch} {σ : Shp} {I : Nat → Nat → Int32} {J : Nat → Nat → Int64} {D : Nat → Nat → UInt64} {R : Nat → Nat → Option Nat} {t : Nat} {I9 : Nat → Nat → Int32} {s0 : Option Nat} {s1 : Int32} (h : fX12_fails_b22 σ t I s0 s1 = some I9) : WX12_fails G l σ (σ, I9, J, D, R) none (σ, I, J, D, R) 22 [(0, vR (some t))] [vI s1, vR s0] := by
  unfold fX12_fails_b22 at h
  obtain ⟨a4, ha4, h⟩ := ob h
  refine r_ref1 ha4 ?_
  obtain ⟨g5, h⟩ := gd h
  refine r_putI (pc := 22) dX12_fails_22 fwX12_497 rfl g5 ?_
  refine r_aload_n (pc := 25) dX12_fails_25 rfl 0 rfl ?_
  refine r_aload_n (pc := 26) dX12_fails_26 rfl 0 rfl ?_
  obtain ⟨g7, h⟩ := gd h
  refine r_getI (pc := 27) dX12_fails_27 fgX12_500 rfl g7 ?_
  refine r_putI (pc := 30) dX12_fails_30 fwX12_503 rfl g7 ?_
  refine r_aload_n (pc := 33) dX12_fails_33 rfl 0 rfl ?_
  refine r_iconst (pc := 34) dX12_fails_34 kc_iconst_0 ?_
  refine r_putI (pc := 35) dX12_fails_35 fwX12_506 rfl g7 ?_
  refine r_aload_n (pc := 38) dX12_fails_38 rfl 0 rfl ?_
  refine r_dup (pc := 39) dX12_fails_39 rfl ?_
  refine r_getI (pc := 40) dX12_fails_40 fgX12_509 rfl g7 ?_
  refine r_iconst (pc := 43) dX12_fails_43 kc_iconst_1 ?_
  refine r_iadd (pc := 44) dX12_fails_44 ?_
  refine r_putI (pc := 45) dX12_fails_45 fwX12_509 rfl g7 ?_
  refine r_aload_n (pc := 48) dX12_fails_48 rfl 0 rfl ?_
  refine r_dup (pc := 49) dX12_fails_49 rfl ?_
  refine r_getI (pc := 50) dX12_fails_50 fgX12_299 rfl g7 ?_
  refine r_iconst (pc := 53) dX12_fails_53 kc_iconst_1 ?_
  refine r_iadd (pc := 54) dX12_fails_54 ?_
  refine r_putI (pc := 55) dX12_fails_55 fwX12_299 rfl g7 ?_
  cases h
  exact r_vret dX12_fails_58
def fX12_fails (σ : Shp) (I : Nat → Nat → Int32) (t : Nat) (x1 : Int32) (x2 : Int32) : Option ((Nat → Nat → Int32)) :=
  if kdx σ t = 13 then
  let I2 := u2 I t 59 (1 : Int32)
  let I3 := u2 I2 t 60 x1
  if x1 = (8 : Int32) then
    fX12_fails_b22 σ t I3 (some t) x2
  else
    fX12_fails_b22 σ t I3 (some t) (0 : Int32)
  else none
theorem kX12_fails {G : Gx} {l : Launch} {σ : Shp} {I : Nat → Nat → Int32} {J : Nat → Nat → Int64} {D : Nat → Nat → UInt64} {R : Nat → Nat → Option Nat} {t : Nat} {x1 : Int32} {x2 : Int32} {I9 : Nat → Nat → Int32} (h : fX12_fails σ I t x1 x2 = some I9) : Con G l yX12_fails cX12_fails 3 none 0 0 [vR (some t), vI x1, vI x2] (σ, I, J, D, R) (σ, I9, J, D, R) none := by
  unfold fX12_fails at h
  refine Con.mk (by decide +kernel) rfl (Nat.le_of_ble_eq_true rfl) ?_
  show WX12_fails G l σ (σ, I9, J, D, R) none (σ, I, J, D, R) 0 _ []
  refine r_aload_n (pc := 0) dX12_fails_0 rfl 0 rfl ?_
  refine r_iconst (pc := 1) dX12_fails_1 kc_iconst_1 ?_
  obtain ⟨g1, h⟩ := gd h
  refine r_putI (pc := 2) dX12_fails_2 fwX12_491 rfl g1 ?_
  refine r_aload_n (pc := 5) dX12_fails_5 rfl 0 rfl ?_
  refine r_iload_n (pc := 6) dX12_fails_6 rfl 1 rfl ?_
  refine r_putI (pc := 7) dX12_fails_7 fwX12_494 rfl g1 ?_
  refine r_aload_n (pc := 10) dX12_fails_10 rfl 0 rfl ?_
  refine r_iload_n (pc := 11) dX12_fails_11 rfl 1 rfl ?_
  refine r_bipush (pc := 12) dX12_fails_12 kc_bipush_8 ?_
  refine r_icmp_ne (pc := 14) (tgt := 21) dX12_fails_14 rfl (fun c => ?_) (fun c => ?_)
  · have h := ie h c
    refine r_iconst (pc := 21) dX12_fails_21 kc_iconst_0 ?_
    refine r_sub [0] rfl ?_
    exact wX12_fails_b22 h
  · have h := it h c
    refine r_iload_n (pc := 17) dX12_fails_17 rfl 2 rfl ?_
    refine r_goto (pc := 18) (tgt := 22) dX12_fails_18 rfl ?_
    refine r_sub [0] rfl ?_
    exact wX12_fails_b22 h
abbrev WX12_push (G : Gx) (l : Launch) (σ0 : Shp) (X1 : Stt) (rv : Option SV) : Stt → Nat → List (Nat × SV) → List SV → Prop := Wm G l yX12_push cX12_push 2 none (fun _ => True) (rmx 0 0 σ0 X1.1) σ0 (Qmx G σ0 X1 rv)
def fX12_push (σ : Shp) (I : Nat → Nat → Int32) (R : Nat → Nat → Option Nat) (t : Nat) (x1 : Int32) : Option ((Nat → Nat → Int32)) :=
  if kdx σ t = 13 then
  ((R t 43) : Option Nat).bind fun a2 =>
  if kdx σ a2 = 20 then
  if ¬ ((I t 42) < 0 ∨ lnx σ a2 ≤ Int32.toNatClampNeg (I t 42)) then
  let I5 := u2 I a2 (Int32.toNatClampNeg (I t 42)) x1
  ((R t 44) : Option Nat).bind fun a6 =>
  if kdx σ a6 = 20 then
  if ¬ ((I5 t 42) < 0 ∨ lnx σ a6 ≤ Int32.toNatClampNeg (I5 t 42)) then
  let I9 := u2 I5 a6 (Int32.toNatClampNeg (I5 t 42)) (I5 t 57)
  ((R t 45) : Option Nat).bind fun a10 =>
  if kdx σ a10 = 20 then
  if ¬ ((I9 t 42) < 0 ∨ lnx σ a10 ≤ Int32.toNatClampNeg (I9 t 42)) then
  let I13 := u2 I9 a10 (Int32.toNatClampNeg (I9 t 42)) (I9 t 58)
  ((R t 46) : Option Nat).bind fun a14 =>
  if kdx σ a14 = 20 then
  if ¬ ((I13 t 42) < 0 ∨ lnx σ a14 ≤ Int32.toNatClampNeg (I13 t 42)) then
  let I17 := u2 I13 a14 (Int32.toNatClampNeg (I13 t 42)) (I13 t 54)
  ((R t 47) : Option Nat).bind fun a18 =>
  if kdx σ a18 = 20 then
  if ¬ ((I17 t 42) < 0 ∨ lnx σ a18 ≤ Int32.toNatClampNeg (I17 t 42)) then
  let I21 := u2 I17 a18 (Int32.toNatClampNeg (I17 t 42)) (1 : Int32)
  let I22 := u2 I21 t 42 ((I21 t 42) + (1 : Int32))
  some I22
  else none
  else none
  else none
  else none
  else none
  else none
  else none
  else none
  else none
  else none
  else none
theorem kX12_push {G : Gx} {l : Launch} {σ : Shp} {I : Nat → Nat → Int32} {J : Nat → Nat → Int64} {D : Nat → Nat → UInt64} {R : Nat → Nat → Option Nat} {t : Nat} {x1 : Int32} {I9 : Nat → Nat → Int32} (h : fX12_push σ I R t x1 = some I9) : Con G l yX12_push cX12_push 2 none 0 0 [vR (some t), vI x1] (σ, I, J, D, R) (σ, I9, J, D, R) none := by
  unfold fX12_push at h
  refine Con.mk (by decide +kernel) rfl (Nat.le_of_ble_eq_true rfl) ?_
  show WX12_push G l σ (σ, I9, J, D, R) none (σ, I, J, D, R) 0 _ []
  refine r_aload_n (pc := 0) dX12_push_0 rfl 0 rfl ?_
  obtain ⟨g1, h⟩ := gd h
  obtain ⟨a2, ha2, h⟩ := ob h
  refine r_getS (pc := 1) dX12_push_1 fgX12_101 rfl g1 ha2 ?_
  refine r_aload_n (pc := 4) dX12_push_4 rfl 0 rfl ?_
  refine r_getI (pc := 5) dX12_push_5 fgX12_512 rfl g1 ?_
  refine r_iload_n (pc := 8) dX12_push_8 rfl 1 rfl ?_
  obtain ⟨g3, h⟩ := gd h
  obtain ⟨g4, h⟩ := gd h
  refine r_iastore (pc := 9) dX12_push_9 g3 g4 ?_
  refine r_aload_n (pc := 10) dX12_push_10 rfl 0 rfl ?_
  obtain ⟨a6, ha6, h⟩ := ob h
  refine r_getS (pc := 11) dX12_push_11 fgX12_104 rfl g1 ha6 ?_
  refine r_aload_n (pc := 14) dX12_push_14 rfl 0 rfl ?_
  refine r_getI (pc := 15) dX12_push_15 fgX12_512 rfl g1 ?_
  refine r_aload_n (pc := 18) dX12_push_18 rfl 0 rfl ?_
  refine r_getI (pc := 19) dX12_push_19 fgX12_515 rfl g1 ?_
  obtain ⟨g7, h⟩ := gd h
  obtain ⟨g8, h⟩ := gd h
  refine r_iastore (pc := 22) dX12_push_22 g7 g8 ?_
  refine r_aload_n (pc := 23) dX12_push_23 rfl 0 rfl ?_
  obtain ⟨a10, ha10, h⟩ := ob h
  refine r_getS (pc := 24) dX12_push_24 fgX12_107 rfl g1 ha10 ?_
  refine r_aload_n (pc := 27) dX12_push_27 rfl 0 rfl ?_
  refine r_getI (pc := 28) dX12_push_28 fgX12_512 rfl g1 ?_
  refine r_aload_n (pc := 31) dX12_push_31 rfl 0 rfl ?_
  refine r_getI (pc := 32) dX12_push_32 fgX12_500 rfl g1 ?_
  obtain ⟨g11, h⟩ := gd h
  obtain ⟨g12, h⟩ := gd h
  refine r_iastore (pc := 35) dX12_push_35 g11 g12 ?_
  refine r_aload_n (pc := 36) dX12_push_36 rfl 0 rfl ?_
  obtain ⟨a14, ha14, h⟩ := ob h
  refine r_getS (pc := 37) dX12_push_37 fgX12_110 rfl g1 ha14 ?_
  refine r_aload_n (pc := 40) dX12_push_40 rfl 0 rfl ?_
  refine r_getI (pc := 41) dX12_push_41 fgX12_512 rfl g1 ?_
  refine r_aload_n (pc := 44) dX12_push_44 rfl 0 rfl ?_
  refine r_getI (pc := 45) dX12_push_45 fgX12_484 rfl g1 ?_
  obtain ⟨g15, h⟩ := gd h
  obtain ⟨g16, h⟩ := gd h
  refine r_iastore (pc := 48) dX12_push_48 g15 g16 ?_
  refine r_aload_n (pc := 49) dX12_push_49 rfl 0 rfl ?_
  obtain ⟨a18, ha18, h⟩ := ob h
  refine r_getS (pc := 50) dX12_push_50 fgX12_113 rfl g1 ha18 ?_
  refine r_aload_n (pc := 53) dX12_push_53 rfl 0 rfl ?_
  refine r_getI (pc := 54) dX12_push_54 fgX12_512 rfl g1 ?_
  refine r_iconst (pc := 57) dX12_push_57 kc_iconst_1 ?_
  obtain ⟨g19, h⟩ := gd h
  obtain ⟨g20, h⟩ := gd h
  refine r_iastore (pc := 58) dX12_push_58 g19 g20 ?_
  refine r_aload_n (pc := 59) dX12_push_59 rfl 0 rfl ?_
  refine r_dup (pc := 60) dX12_push_60 rfl ?_
  refine r_getI (pc := 61) dX12_push_61 fgX12_512 rfl g1 ?_
  refine r_iconst (pc := 64) dX12_push_64 kc_iconst_1 ?_
  refine r_iadd (pc := 65) dX12_push_65 ?_
  refine r_putI (pc := 66) dX12_push_66 fwX12_512 rfl g1 ?_
  cases h
  exact r_vret dX12_push_69
abbrev WX12_a (G : Gx) (l : Launch) (σ0 : Shp) (X1 : Stt) (rv : Option SV) : Stt → Nat → List (Nat × SV) → List SV → Prop := Wm G l yX12_a cX12_a 1 (some .int) (fun _ => True) (rmx 0 0 σ0 X1.1) σ0 (Qmx G σ0 X1 rv)
def fX12_a (σ : Shp) (I : Nat → Nat → Int32) (R : Nat → Nat → Option Nat) (t : Nat)  : Option ((Int32)) :=
  if kdx σ t = 13 then
  ((R t 35) : Option Nat).bind fun a2 =>
  if kdx σ a2 = 20 then
  if ¬ ((((40 : Int32) * (I t 57)) + (I t 58)) < 0 ∨ lnx σ a2 ≤ Int32.toNatClampNeg (((40 : Int32) * (I t 57)) + (I t 58))) then
  some (I a2 (Int32.toNatClampNeg (((40 : Int32) * (I t 57)) + (I t 58))))
  else none
  else none
  else none
theorem kX12_a {G : Gx} {l : Launch} {σ : Shp} {I : Nat → Nat → Int32} {J : Nat → Nat → Int64} {D : Nat → Nat → UInt64} {R : Nat → Nat → Option Nat} {t : Nat}  {r9 : Int32} (h : fX12_a σ I R t = some r9) : Con G l yX12_a cX12_a 1 (some .int) 0 0 [vR (some t)] (σ, I, J, D, R) (σ, I, J, D, R) (some (vI r9)) := by
  unfold fX12_a at h
  refine Con.mk (by decide +kernel) rfl (Nat.le_of_ble_eq_true rfl) ?_
  show WX12_a G l σ (σ, I, J, D, R) (some (vI r9)) (σ, I, J, D, R) 0 _ []
  refine r_aload_n (pc := 0) dX12_a_0 rfl 0 rfl ?_
  obtain ⟨g1, h⟩ := gd h
  obtain ⟨a2, ha2, h⟩ := ob h
  refine r_getS (pc := 1) dX12_a_1 fgX12_80 rfl g1 ha2 ?_
  refine r_bipush (pc := 4) dX12_a_4 kc_bipush_40 ?_
  refine r_aload_n (pc := 6) dX12_a_6 rfl 0 rfl ?_
  refine r_getI (pc := 7) dX12_a_7 fgX12_515 rfl g1 ?_
  refine r_imul (pc := 10) dX12_a_10 ?_
  refine r_aload_n (pc := 11) dX12_a_11 rfl 0 rfl ?_
  refine r_getI (pc := 12) dX12_a_12 fgX12_500 rfl g1 ?_
  refine r_iadd (pc := 15) dX12_a_15 ?_
  obtain ⟨g3, h⟩ := gd h
  obtain ⟨g4, h⟩ := gd h
  refine r_iaload (pc := 16) dX12_a_16 g3 g4 ?_
  cases h
  exact r_iret dX12_a_17
abbrev WX12_b (G : Gx) (l : Launch) (σ0 : Shp) (X1 : Stt) (rv : Option SV) : Stt → Nat → List (Nat × SV) → List SV → Prop := Wm G l yX12_b cX12_b 1 (some .int) (fun _ => True) (rmx 0 0 σ0 X1.1) σ0 (Qmx G σ0 X1 rv)
def fX12_b (σ : Shp) (I : Nat → Nat → Int32) (R : Nat → Nat → Option Nat) (t : Nat)  : Option ((Int32)) :=
  if kdx σ t = 13 then
  ((R t 36) : Option Nat).bind fun a2 =>
  if kdx σ a2 = 20 then
  if ¬ ((((40 : Int32) * (I t 57)) + (I t 58)) < 0 ∨ lnx σ a2 ≤ Int32.toNatClampNeg (((40 : Int32) * (I t 57)) + (I t 58))) then
  some (I a2 (Int32.toNatClampNeg (((40 : Int32) * (I t 57)) + (I t 58))))
  else none
  else none
  else none
theorem kX12_b {G : Gx} {l : Launch} {σ : Shp} {I : Nat → Nat → Int32} {J : Nat → Nat → Int64} {D : Nat → Nat → UInt64} {R : Nat → Nat → Option Nat} {t : Nat}  {r9 : Int32} (h : fX12_b σ I R t = some r9) : Con G l yX12_b cX12_b 1 (some .int) 0 0 [vR (some t)] (σ, I, J, D, R) (σ, I, J, D, R) (some (vI r9)) := by
  unfold fX12_b at h
  refine Con.mk (by decide +kernel) rfl (Nat.le_of_ble_eq_true rfl) ?_
  show WX12_b G l σ (σ, I, J, D, R) (some (vI r9)) (σ, I, J, D, R) 0 _ []
  refine r_aload_n (pc := 0) dX12_b_0 rfl 0 rfl ?_
  obtain ⟨g1, h⟩ := gd h
  obtain ⟨a2, ha2, h⟩ := ob h
  refine r_getS (pc := 1) dX12_b_1 fgX12_83 rfl g1 ha2 ?_
  refine r_bipush (pc := 4) dX12_b_4 kc_bipush_40 ?_
  refine r_aload_n (pc := 6) dX12_b_6 rfl 0 rfl ?_
  refine r_getI (pc := 7) dX12_b_7 fgX12_515 rfl g1 ?_
  refine r_imul (pc := 10) dX12_b_10 ?_
  refine r_aload_n (pc := 11) dX12_b_11 rfl 0 rfl ?_
  refine r_getI (pc := 12) dX12_b_12 fgX12_500 rfl g1 ?_
  refine r_iadd (pc := 15) dX12_b_15 ?_
  obtain ⟨g3, h⟩ := gd h
  obtain ⟨g4, h⟩ := gd h
  refine r_iaload (pc := 16) dX12_b_16 g3 g4 ?_
  cases h
  exact r_iret dX12_b_17
abbrev WX12_c (G : Gx) (l : Launch) (σ0 : Shp) (X1 : Stt) (rv : Option SV) : Stt → Nat → List (Nat × SV) → List SV → Prop := Wm G l yX12_c cX12_c 1 (some .int) (fun _ => True) (rmx 0 0 σ0 X1.1) σ0 (Qmx G σ0 X1 rv)
def fX12_c (σ : Shp) (I : Nat → Nat → Int32) (R : Nat → Nat → Option Nat) (t : Nat)  : Option ((Int32)) :=
  if kdx σ t = 13 then
  ((R t 37) : Option Nat).bind fun a2 =>
  if kdx σ a2 = 20 then
  if ¬ ((((40 : Int32) * (I t 57)) + (I t 58)) < 0 ∨ lnx σ a2 ≤ Int32.toNatClampNeg (((40 : Int32) * (I t 57)) + (I t 58))) then
  some (I a2 (Int32.toNatClampNeg (((40 : Int32) * (I t 57)) + (I t 58))))
  else none
  else none
  else none
theorem kX12_c {G : Gx} {l : Launch} {σ : Shp} {I : Nat → Nat → Int32} {J : Nat → Nat → Int64} {D : Nat → Nat → UInt64} {R : Nat → Nat → Option Nat} {t : Nat}  {r9 : Int32} (h : fX12_c σ I R t = some r9) : Con G l yX12_c cX12_c 1 (some .int) 0 0 [vR (some t)] (σ, I, J, D, R) (σ, I, J, D, R) (some (vI r9)) := by
  unfold fX12_c at h
  refine Con.mk (by decide +kernel) rfl (Nat.le_of_ble_eq_true rfl) ?_
  show WX12_c G l σ (σ, I, J, D, R) (some (vI r9)) (σ, I, J, D, R) 0 _ []
  refine r_aload_n (pc := 0) dX12_c_0 rfl 0 rfl ?_
  obtain ⟨g1, h⟩ := gd h
  obtain ⟨a2, ha2, h⟩ := ob h
  refine r_getS (pc := 1) dX12_c_1 fgX12_86 rfl g1 ha2 ?_
  refine r_bipush (pc := 4) dX12_c_4 kc_bipush_40 ?_
  refine r_aload_n (pc := 6) dX12_c_6 rfl 0 rfl ?_
  refine r_getI (pc := 7) dX12_c_7 fgX12_515 rfl g1 ?_
  refine r_imul (pc := 10) dX12_c_10 ?_
  refine r_aload_n (pc := 11) dX12_c_11 rfl 0 rfl ?_
  refine r_getI (pc := 12) dX12_c_12 fgX12_500 rfl g1 ?_
  refine r_iadd (pc := 15) dX12_c_15 ?_
  obtain ⟨g3, h⟩ := gd h
  obtain ⟨g4, h⟩ := gd h
  refine r_iaload (pc := 16) dX12_c_16 g3 g4 ?_
  cases h
  exact r_iret dX12_c_17
abbrev WX12_enter (G : Gx) (l : Launch) (σ0 : Shp) (X1 : Stt) (rv : Option SV) : Stt → Nat → List (Nat × SV) → List SV → Prop := Wm G l yX12_enter cX12_enter 5 none (fun _ => True) (rmx 2 46 σ0 X1.1) σ0 (Qmx G σ0 X1 rv)
def fX12_enter_b194  (σ : Shp) (R : Nat → Nat → Option Nat) (t : Nat) (I : Nat → Nat → Int32) (J : Nat → Nat → Int64) (x1 : Int32) : Option ((Nat → Nat → Int32) × (Nat → Nat → Int64)) :=
  if kdx σ t = 13 then
  (fX12_push σ I R t x1).bind fun I8 =>
  if x1 = (11 : Int32) then
    ((R t 40) : Option Nat).bind fun a33 =>
    (fX12_a σ I8 R t).bind fun r34 =>
    if kdx σ a33 = 20 then
    if ¬ (r34 < 0 ∨ lnx σ a33 ≤ Int32.toNatClampNeg r34) then
    let I38 := u2 I8 a33 (Int32.toNatClampNeg r34) ((I8 a33 (Int32.toNatClampNeg r34)) + (1 : Int32))
    if ¬ ((0 : Int32) < 0 ∨ lnx σ a33 ≤ Int32.toNatClampNeg (0 : Int32)) then
    if ¬ ((1 : Int32) < 0 ∨ lnx σ a33 ≤ Int32.toNatClampNeg (1 : Int32)) then
    if ¬ ((2 : Int32) < 0 ∨ lnx σ a33 ≤ Int32.toNatClampNeg (2 : Int32)) then
    let v42 := (((I38 a33 (Int32.toNatClampNeg (0 : Int32))) + (I38 a33 (Int32.toNatClampNeg (1 : Int32)))) + (I38 a33 (Int32.toNatClampNeg (2 : Int32))))
    if v42 ≤ (I38 t 69) then
      let I43 := u2 I38 t 69 (I38 t 69)
      let I44 := u2 I43 t 58 ((I43 t 58) + (1 : Int32))
      some (I44, J)
    else
      let I45 := u2 I38 t 69 v42
      let I46 := u2 I45 t 58 ((I45 t 58) + (1 : Int32))
      some (I46, J)
    else none
    else none
    else none
    else none
    else none
  else
    if x1 = (12 : Int32) then
      (fX12_a σ I8 R t).bind fun r20 =>
      ((R t 38) : Option Nat).bind fun a22 =>
      (fX12_a σ I8 R t).bind fun r23 =>
      if kdx σ a22 = 21 then
      if ¬ (r23 < 0 ∨ lnx σ a22 ≤ Int32.toNatClampNeg r23) then
      (fX12_b σ I8 R t).bind fun r27 =>
      (fX12_changeStock σ I8 J R t r20 ((J a22 (Int32.toNatClampNeg r23)) - (Int32.toInt64 r27))).bind fun (I29, J30) =>
      let I32 := u2 I29 t 58 ((I29 t 58) + (1 : Int32))
      some (I32, J30)
      else none
      else none
    else
      if x1 = (13 : Int32) then
        ((R t 39) : Option Nat).bind fun a11 =>
        (fX12_a σ I8 R t).bind fun r12 =>
        (fX12_b σ I8 R t).bind fun r14 =>
        if kdx σ a11 = 20 then
        if ¬ (r12 < 0 ∨ lnx σ a11 ≤ Int32.toNatClampNeg r12) then
        let I18 := u2 I8 a11 (Int32.toNatClampNeg r12) r14
        let I19 := u2 I18 t 58 ((I18 t 58) + (1 : Int32))
        some (I19, J)
        else none
        else none
      else
        let I10 := u2 I8 t 58 ((I8 t 58) + (1 : Int32))
        some (I10, J)
  else none
theorem wX12_enter_b194 {G : Gx} {l : Launch} {σ : Shp} {I : Nat → Nat → Int32} {J : Nat → Nat → Int64} {D : Nat → Nat → UInt64} {R : Nat → Nat → Option Nat} {t : Nat} {I9 : Nat → Nat → Int32} {J9 : Nat → Nat → Int64} {x1 : Int32} (h : fX12_enter_b194 σ R t I J x1 = some (I9, J9)) : WX12_enter G l σ (σ, I9, J9, D, R) none (σ, I, J, D, R) 194 [(0, vR (some t)), (1, vI x1)] [] := by
  unfold fX12_enter_b194 at h
  refine r_aload_n (pc := 194) dX12_enter_194 rfl 0 rfl ?_
  refine r_iload_n (pc := 195) dX12_enter_195 rfl 1 rfl ?_
  obtain ⟨g7, h⟩ := gd h
  obtain ⟨I8, hc9, h⟩ := ob h
  refine r_callV0 (pc := 196) (av := [vI x1]) (S := []) dX12_enter_196 (kX12_push hc9) g7 rfl mkX12_531 mwX12_push rfl ⟨Nat.le_of_ble_eq_true rfl, Nat.le_of_ble_eq_true rfl⟩ (Nat.le_of_ble_eq_true rfl) ⟨Nat.le_refl _, Nat.le_refl _⟩ (fun b => b) ?_
  refine r_iload_n (pc := 199) dX12_enter_199 rfl 1 rfl ?_
  refine r_bipush (pc := 200) dX12_enter_200 kc_bipush_11 ?_
  refine r_icmp_ne (pc := 202) (tgt := 265) dX12_enter_202 rfl (fun c => ?_) (fun c => ?_)
  · have h := ie h c
    refine r_iload_n (pc := 265) dX12_enter_265 rfl 1 rfl ?_
    refine r_bipush (pc := 266) dX12_enter_266 kc_bipush_12 ?_
    refine r_icmp_ne (pc := 268) (tgt := 297) dX12_enter_268 rfl (fun c => ?_) (fun c => ?_)
    · have h := ie h c
      refine r_iload_n (pc := 297) dX12_enter_297 rfl 1 rfl ?_
      refine r_bipush (pc := 298) dX12_enter_298 kc_bipush_13 ?_
      refine r_icmp_ne (pc := 300) (tgt := 316) dX12_enter_300 rfl (fun c => ?_) (fun c => ?_)
      · have h := ie h c
        refine r_aload_n (pc := 316) dX12_enter_316 rfl 0 rfl ?_
        refine r_dup (pc := 317) dX12_enter_317 rfl ?_
        refine r_getI (pc := 318) dX12_enter_318 fgX12_500 rfl g7 ?_
        refine r_iconst (pc := 321) dX12_enter_321 kc_iconst_1 ?_
        refine r_iadd (pc := 322) dX12_enter_322 ?_
        refine r_putI (pc := 323) dX12_enter_323 fwX12_500 rfl g7 ?_
        cases h
        exact r_vret dX12_enter_326
      · have h := it h c
        refine r_aload_n (pc := 303) dX12_enter_303 rfl 0 rfl ?_
        obtain ⟨a11, ha11, h⟩ := ob h
        refine r_getS (pc := 304) dX12_enter_304 fgX12_92 rfl g7 ha11 ?_
        refine r_aload_n (pc := 307) dX12_enter_307 rfl 0 rfl ?_
        obtain ⟨r12, hc13, h⟩ := ob h
        refine r_callV1 (pc := 308) (av := []) (S := [vR (some a11)]) dX12_enter_308 (kX12_a hc13) g7 rfl mkX12_518 mwX12_a rfl ⟨Nat.le_of_ble_eq_true rfl, Nat.le_of_ble_eq_true rfl⟩ (Nat.le_of_ble_eq_true rfl) ⟨Nat.le_refl _, Nat.le_refl _⟩ (fun b => b) ?_
        refine r_aload_n (pc := 311) dX12_enter_311 rfl 0 rfl ?_
        obtain ⟨r14, hc15, h⟩ := ob h
        refine r_callV1 (pc := 312) (av := []) (S := [vI r12, vR (some a11)]) dX12_enter_312 (kX12_b hc15) g7 rfl mkX12_525 mwX12_b rfl ⟨Nat.le_of_ble_eq_true rfl, Nat.le_of_ble_eq_true rfl⟩ (Nat.le_of_ble_eq_true rfl) ⟨Nat.le_refl _, Nat.le_refl _⟩ (fun b => b) ?_
        obtain ⟨g16, h⟩ := gd h
        obtain ⟨g17, h⟩ := gd h
        refine r_iastore (pc := 315) dX12_enter_315 g16 g17 ?_
        refine r_aload_n (pc := 316) dX12_enter_316 rfl 0 rfl ?_
        refine r_dup (pc := 317) dX12_enter_317 rfl ?_
        refine r_getI (pc := 318) dX12_enter_318 fgX12_500 rfl g7 ?_
        refine r_iconst (pc := 321) dX12_enter_321 kc_iconst_1 ?_
        refine r_iadd (pc := 322) dX12_enter_322 ?_
        refine r_putI (pc := 323) dX12_enter_323 fwX12_500 rfl g7 ?_
        cases h
        exact r_vret dX12_enter_326
    · have h := it h c
      refine r_aload_n (pc := 271) dX12_enter_271 rfl 0 rfl ?_
      refine r_aload_n (pc := 272) dX12_enter_272 rfl 0 rfl ?_
      obtain ⟨r20, hc21, h⟩ := ob h
      refine r_callV1 (pc := 273) (av := []) (S := [vR (some t)]) dX12_enter_273 (kX12_a hc21) g7 rfl mkX12_518 mwX12_a rfl ⟨Nat.le_of_ble_eq_true rfl, Nat.le_of_ble_eq_true rfl⟩ (Nat.le_of_ble_eq_true rfl) ⟨Nat.le_refl _, Nat.le_refl _⟩ (fun b => b) ?_
      refine r_aload_n (pc := 276) dX12_enter_276 rfl 0 rfl ?_
      obtain ⟨a22, ha22, h⟩ := ob h
      refine r_getS (pc := 277) dX12_enter_277 fgX12_89 rfl g7 ha22 ?_
      refine r_aload_n (pc := 280) dX12_enter_280 rfl 0 rfl ?_
      obtain ⟨r23, hc24, h⟩ := ob h
      refine r_callV1 (pc := 281) (av := []) (S := [vR (some a22), vI r20, vR (some t)]) dX12_enter_281 (kX12_a hc24) g7 rfl mkX12_518 mwX12_a rfl ⟨Nat.le_of_ble_eq_true rfl, Nat.le_of_ble_eq_true rfl⟩ (Nat.le_of_ble_eq_true rfl) ⟨Nat.le_refl _, Nat.le_refl _⟩ (fun b => b) ?_
      obtain ⟨g25, h⟩ := gd h
      obtain ⟨g26, h⟩ := gd h
      refine r_laload (pc := 284) dX12_enter_284 g25 g26 ?_
      refine r_aload_n (pc := 285) dX12_enter_285 rfl 0 rfl ?_
      obtain ⟨r27, hc28, h⟩ := ob h
      refine r_callV1 (pc := 286) (av := []) (S := [vL (J a22 (Int32.toNatClampNeg r23)), vI r20, vR (some t)]) dX12_enter_286 (kX12_b hc28) g7 rfl mkX12_525 mwX12_b rfl ⟨Nat.le_of_ble_eq_true rfl, Nat.le_of_ble_eq_true rfl⟩ (Nat.le_of_ble_eq_true rfl) ⟨Nat.le_refl _, Nat.le_refl _⟩ (fun b => b) ?_
      refine r_i2l (pc := 289) dX12_enter_289 ?_
      refine r_lsub (pc := 290) dX12_enter_290 ?_
      obtain ⟨⟨I29, J30⟩, hc31, h⟩ := ob h
      refine r_callV0 (pc := 291) (av := [vI r20, vL ((J a22 (Int32.toNatClampNeg r23)) - (Int32.toInt64 r27))]) (S := []) dX12_enter_291 (kX12_changeStock hc31) g7 rfl mkX12_537 mwX12_changeStock rfl ⟨Nat.le_of_ble_eq_true rfl, Nat.le_of_ble_eq_true rfl⟩ (Nat.le_of_ble_eq_true rfl) ⟨Nat.le_refl _, Nat.le_refl _⟩ (fun b => b) ?_
      refine r_goto (pc := 294) (tgt := 316) dX12_enter_294 rfl ?_
      refine r_aload_n (pc := 316) dX12_enter_316 rfl 0 rfl ?_
      refine r_dup (pc := 317) dX12_enter_317 rfl ?_
      refine r_getI (pc := 318) dX12_enter_318 fgX12_500 rfl g7 ?_
      refine r_iconst (pc := 321) dX12_enter_321 kc_iconst_1 ?_
      refine r_iadd (pc := 322) dX12_enter_322 ?_
      refine r_putI (pc := 323) dX12_enter_323 fwX12_500 rfl g7 ?_
      cases h
      exact r_vret dX12_enter_326
  · have h := it h c
    refine r_aload_n (pc := 205) dX12_enter_205 rfl 0 rfl ?_
    obtain ⟨a33, ha33, h⟩ := ob h
    refine r_getS (pc := 206) dX12_enter_206 fgX12_95 rfl g7 ha33 ?_
    refine r_aload_n (pc := 209) dX12_enter_209 rfl 0 rfl ?_
    obtain ⟨r34, hc35, h⟩ := ob h
    refine r_callV1 (pc := 210) (av := []) (S := [vR (some a33)]) dX12_enter_210 (kX12_a hc35) g7 rfl mkX12_518 mwX12_a rfl ⟨Nat.le_of_ble_eq_true rfl, Nat.le_of_ble_eq_true rfl⟩ (Nat.le_of_ble_eq_true rfl) ⟨Nat.le_refl _, Nat.le_refl _⟩ (fun b => b) ?_
    refine r_dup2 (pc := 213) dX12_enter_213 rfl rfl ?_
    obtain ⟨g36, h⟩ := gd h
    obtain ⟨g37, h⟩ := gd h
    refine r_iaload (pc := 214) dX12_enter_214 g36 g37 ?_
    refine r_iconst (pc := 215) dX12_enter_215 kc_iconst_1 ?_
    refine r_iadd (pc := 216) dX12_enter_216 ?_
    refine r_iastore (pc := 217) dX12_enter_217 g36 g37 ?_
    refine r_aload_n (pc := 218) dX12_enter_218 rfl 0 rfl ?_
    refine r_getS (pc := 219) dX12_enter_219 fgX12_95 rfl g7 ha33 ?_
    refine r_iconst (pc := 222) dX12_enter_222 kc_iconst_0 ?_
    obtain ⟨g39, h⟩ := gd h
    refine r_iaload (pc := 223) dX12_enter_223 g36 g39 ?_
    refine r_aload_n (pc := 224) dX12_enter_224 rfl 0 rfl ?_
    refine r_getS (pc := 225) dX12_enter_225 fgX12_95 rfl g7 ha33 ?_
    refine r_iconst (pc := 228) dX12_enter_228 kc_iconst_1 ?_
    obtain ⟨g40, h⟩ := gd h
    refine r_iaload (pc := 229) dX12_enter_229 g36 g40 ?_
    refine r_iadd (pc := 230) dX12_enter_230 ?_
    refine r_aload_n (pc := 231) dX12_enter_231 rfl 0 rfl ?_
    refine r_getS (pc := 232) dX12_enter_232 fgX12_95 rfl g7 ha33 ?_
    refine r_iconst (pc := 235) dX12_enter_235 kc_iconst_2 ?_
    obtain ⟨g41, h⟩ := gd h
    refine r_iaload (pc := 236) dX12_enter_236 g36 g41 ?_
    refine r_iadd (pc := 237) dX12_enter_237 ?_
    refine r_istore (pc := 238) (L' := [(4, vI ((((u2 I8 a33 (Int32.toNatClampNeg r34) ((I8 a33 (Int32.toNatClampNeg r34)) + (1 : Int32))) a33 (Int32.toNatClampNeg (0 : Int32))) + ((u2 I8 a33 (Int32.toNatClampNeg r34) ((I8 a33 (Int32.toNatClampNeg r34)) + (1 : Int32))) a33 (Int32.toNatClampNeg (1 : Int32)))) + ((u2 I8 a33 (Int32.toNatClampNeg r34) ((I8 a33 (Int32.toNatClampNeg r34)) + (1 : Int32))) a33 (Int32.toNatClampNeg (2 : Int32))))), (0, vR (some t)), (1, vI x1)]) dX12_enter_238 (by decide) rfl ?_
    refine r_aload_n (pc := 240) dX12_enter_240 rfl 1 rfl ?_
    refine r_iload (pc := 241) dX12_enter_241 0 rfl ?_
    refine r_aload_n (pc := 243) dX12_enter_243 rfl 1 rfl ?_
    refine r_getI (pc := 244) dX12_enter_244 fgX12_534 rfl g7 ?_
    refine r_icmp_le (pc := 247) (tgt := 255) dX12_enter_247 rfl (fun c => ?_) (fun c => ?_)
    · have h := it h c
      refine r_aload_n (pc := 255) dX12_enter_255 rfl 1 rfl ?_
      refine r_getI (pc := 256) dX12_enter_256 fgX12_534 rfl g7 ?_
      refine r_putI (pc := 259) dX12_enter_259 fwX12_534 rfl g7 ?_
      refine r_goto (pc := 262) (tgt := 316) dX12_enter_262 rfl ?_
      refine r_aload_n (pc := 316) dX12_enter_316 rfl 1 rfl ?_
      refine r_dup (pc := 317) dX12_enter_317 rfl ?_
      refine r_getI (pc := 318) dX12_enter_318 fgX12_500 rfl g7 ?_
      refine r_iconst (pc := 321) dX12_enter_321 kc_iconst_1 ?_
      refine r_iadd (pc := 322) dX12_enter_322 ?_
      refine r_putI (pc := 323) dX12_enter_323 fwX12_500 rfl g7 ?_
      cases h
      exact r_vret dX12_enter_326
    · have h := ie h c
      refine r_iload (pc := 250) dX12_enter_250 0 rfl ?_
      refine r_goto (pc := 252) (tgt := 259) dX12_enter_252 rfl ?_
      refine r_putI (pc := 259) dX12_enter_259 fwX12_534 rfl g7 ?_
      refine r_goto (pc := 262) (tgt := 316) dX12_enter_262 rfl ?_
      refine r_aload_n (pc := 316) dX12_enter_316 rfl 1 rfl ?_
      refine r_dup (pc := 317) dX12_enter_317 rfl ?_
      refine r_getI (pc := 318) dX12_enter_318 fgX12_500 rfl g7 ?_
      refine r_iconst (pc := 321) dX12_enter_321 kc_iconst_1 ?_
      refine r_iadd (pc := 322) dX12_enter_322 ?_
      refine r_putI (pc := 323) dX12_enter_323 fwX12_500 rfl g7 ?_
      cases h
      exact r_vret dX12_enter_326
def fX12_enter_b161  (σ : Shp) (R : Nat → Nat → Option Nat) (t : Nat) (I : Nat → Nat → Int32) (J : Nat → Nat → Int64) (x1 : Int32) : Option ((Nat → Nat → Int32) × (Nat → Nat → Int64)) :=
  if kdx σ t = 13 then
  ((R t 38) : Option Nat).bind fun a2 =>
  (fX12_a σ I R t).bind fun r3 =>
  if kdx σ a2 = 21 then
  if ¬ (r3 < 0 ∨ lnx σ a2 ≤ Int32.toNatClampNeg r3) then
  if (0 : Int64) < (J a2 (Int32.toNatClampNeg r3)) then
    fX12_enter_b194 σ R t I J x1
  else
    (fX12_endOf σ I R t (I t 57) (I t 58)).bind fun r47 =>
    let I49 := u2 I t 58 (r47 + (1 : Int32))
    some (I49, J)
  else none
  else none
  else none
theorem wX12_enter_b161 {G : Gx} {l : Launch} {σ : Shp} {I : Nat → Nat → Int32} {J : Nat → Nat → Int64} {D : Nat → Nat → UInt64} {R : Nat → Nat → Option Nat} {t : Nat} {I9 : Nat → Nat → Int32} {J9 : Nat → Nat → Int64} {x1 : Int32} (h : fX12_enter_b161 σ R t I J x1 = some (I9, J9)) : WX12_enter G l σ (σ, I9, J9, D, R) none (σ, I, J, D, R) 161 [(0, vR (some t)), (1, vI x1)] [] := by
  unfold fX12_enter_b161 at h
  refine r_aload_n (pc := 161) dX12_enter_161 rfl 0 rfl ?_
  obtain ⟨g1, h⟩ := gd h
  obtain ⟨a2, ha2, h⟩ := ob h
  refine r_getS (pc := 162) dX12_enter_162 fgX12_89 rfl g1 ha2 ?_
  refine r_aload_n (pc := 165) dX12_enter_165 rfl 0 rfl ?_
  obtain ⟨r3, hc4, h⟩ := ob h
  refine r_callV1 (pc := 166) (av := []) (S := [vR (some a2)]) dX12_enter_166 (kX12_a hc4) g1 rfl mkX12_518 mwX12_a rfl ⟨Nat.le_of_ble_eq_true rfl, Nat.le_of_ble_eq_true rfl⟩ (Nat.le_of_ble_eq_true rfl) ⟨Nat.le_refl _, Nat.le_refl _⟩ (fun b => b) ?_
  obtain ⟨g5, h⟩ := gd h
  obtain ⟨g6, h⟩ := gd h
  refine r_laload (pc := 169) dX12_enter_169 g5 g6 ?_
  refine r_lconst (pc := 170) dX12_enter_170 kc_lconst_0 ?_
  refine r_lcmp (pc := 171) dX12_enter_171 ?_
  refine r_ifgt (pc := 172) (tgt := 194) dX12_enter_172 rfl (fun c => ?_) (fun c => ?_)
  · have h := it h (lgc_gt.mp c)
    refine r_sub [0, 1] rfl ?_
    exact wX12_enter_b194 h
  · have h := ie h (fun q => c (lgc_gt.mpr q))
    refine r_aload_n (pc := 175) dX12_enter_175 rfl 0 rfl ?_
    refine r_aload_n (pc := 176) dX12_enter_176 rfl 0 rfl ?_
    refine r_aload_n (pc := 177) dX12_enter_177 rfl 0 rfl ?_
    refine r_getI (pc := 178) dX12_enter_178 fgX12_515 rfl g1 ?_
    refine r_aload_n (pc := 181) dX12_enter_181 rfl 0 rfl ?_
    refine r_getI (pc := 182) dX12_enter_182 fgX12_500 rfl g1 ?_
    obtain ⟨r47, hc48, h⟩ := ob h
    refine r_callV1 (pc := 185) (av := [vI (I t 57), vI (I t 58)]) (S := [vR (some t)]) dX12_enter_185 (kX12_endOf hc48) g1 rfl mkX12_528 mwX12_endOf rfl ⟨Nat.le_of_ble_eq_true rfl, Nat.le_of_ble_eq_true rfl⟩ (Nat.le_of_ble_eq_true rfl) ⟨Nat.le_refl _, Nat.le_refl _⟩ (fun b => b) ?_
    refine r_iconst (pc := 188) dX12_enter_188 kc_iconst_1 ?_
    refine r_iadd (pc := 189) dX12_enter_189 ?_
    refine r_putI (pc := 190) dX12_enter_190 fwX12_500 rfl g1 ?_
    cases h
    exact r_vret dX12_enter_193
def fX12_enter_b121  (σ : Shp) (R : Nat → Nat → Option Nat) (t : Nat) (I : Nat → Nat → Int32) (J : Nat → Nat → Int64) (x1 : Int32) : Option ((Nat → Nat → Int32) × (Nat → Nat → Int64)) :=
  if x1 = (15 : Int32) then
    if kdx σ t = 13 then
    (fX12_a σ I R t).bind fun r51 =>
    if (fX12_in r51 (1 : Int32) (9 : Int32)) = 0 then
      (fX12_fails σ I t (8 : Int32) (96 : Int32)).bind fun I53 =>
      some (I53, J)
    else
      if x1 = (19 : Int32) then
        fX12_enter_b161 σ R t I J x1
      else
        if x1 = (20 : Int32) then
          fX12_enter_b161 σ R t I J x1
        else
          fX12_enter_b194 σ R t I J x1
    else none
  else
    if x1 = (19 : Int32) then
      fX12_enter_b161 σ R t I J x1
    else
      if x1 = (20 : Int32) then
        fX12_enter_b161 σ R t I J x1
      else
        fX12_enter_b194 σ R t I J x1
theorem wX12_enter_b121 {G : Gx} {l : Launch} {σ : Shp} {I : Nat → Nat → Int32} {J : Nat → Nat → Int64} {D : Nat → Nat → UInt64} {R : Nat → Nat → Option Nat} {t : Nat} {I9 : Nat → Nat → Int32} {J9 : Nat → Nat → Int64} {x1 : Int32} (h : fX12_enter_b121 σ R t I J x1 = some (I9, J9)) : WX12_enter G l σ (σ, I9, J9, D, R) none (σ, I, J, D, R) 121 [(0, vR (some t)), (1, vI x1)] [] := by
  unfold fX12_enter_b121 at h
  refine r_iload_n (pc := 121) dX12_enter_121 rfl 1 rfl ?_
  refine r_bipush (pc := 122) dX12_enter_122 kc_bipush_15 ?_
  refine r_icmp_ne (pc := 124) (tgt := 149) dX12_enter_124 rfl (fun c => ?_) (fun c => ?_)
  · have h := ie h c
    refine r_iload_n (pc := 149) dX12_enter_149 rfl 1 rfl ?_
    refine r_bipush (pc := 150) dX12_enter_150 kc_bipush_19 ?_
    refine r_icmp_eq (pc := 152) (tgt := 161) dX12_enter_152 rfl (fun c => ?_) (fun c => ?_)
    · have h := it h c
      refine r_sub [0, 1] rfl ?_
      exact wX12_enter_b161 h
    · have h := ie h c
      refine r_iload_n (pc := 155) dX12_enter_155 rfl 1 rfl ?_
      refine r_bipush (pc := 156) dX12_enter_156 kc_bipush_20 ?_
      refine r_icmp_ne (pc := 158) (tgt := 194) dX12_enter_158 rfl (fun c => ?_) (fun c => ?_)
      · have h := ie h c
        refine r_sub [0, 1] rfl ?_
        exact wX12_enter_b194 h
      · have h := it h c
        refine r_sub [0, 1] rfl ?_
        exact wX12_enter_b161 h
  · have h := it h c
    refine r_aload_n (pc := 127) dX12_enter_127 rfl 0 rfl ?_
    obtain ⟨g50, h⟩ := gd h
    obtain ⟨r51, hc52, h⟩ := ob h
    refine r_callV1 (pc := 128) (av := []) (S := []) dX12_enter_128 (kX12_a hc52) g50 rfl mkX12_518 mwX12_a rfl ⟨Nat.le_of_ble_eq_true rfl, Nat.le_of_ble_eq_true rfl⟩ (Nat.le_of_ble_eq_true rfl) ⟨Nat.le_refl _, Nat.le_refl _⟩ (fun b => b) ?_
    refine r_iconst (pc := 131) dX12_enter_131 kc_iconst_1 ?_
    refine r_bipush (pc := 132) dX12_enter_132 kc_bipush_9 ?_
    refine r_callS1 (pc := 134) (av := [vI r51, vI (1 : Int32), vI (9 : Int32)]) (S := []) dX12_enter_134 (kX12_in rfl) mkX12_322 mwX12_in rfl ⟨Nat.le_of_ble_eq_true rfl, Nat.le_of_ble_eq_true rfl⟩ (Nat.le_of_ble_eq_true rfl) ⟨Nat.le_refl _, Nat.le_refl _⟩ (fun b => b) ?_
    refine r_ifne (pc := 137) (tgt := 149) dX12_enter_137 rfl (fun c => ?_) (fun c => ?_)
    · have h := ie h c
      refine r_iload_n (pc := 149) dX12_enter_149 rfl 1 rfl ?_
      refine r_bipush (pc := 150) dX12_enter_150 kc_bipush_19 ?_
      refine r_icmp_eq (pc := 152) (tgt := 161) dX12_enter_152 rfl (fun c => ?_) (fun c => ?_)
      · have h := it h c
        refine r_sub [0, 1] rfl ?_
        exact wX12_enter_b161 h
      · have h := ie h c
        refine r_iload_n (pc := 155) dX12_enter_155 rfl 1 rfl ?_
        refine r_bipush (pc := 156) dX12_enter_156 kc_bipush_20 ?_
        refine r_icmp_ne (pc := 158) (tgt := 194) dX12_enter_158 rfl (fun c => ?_) (fun c => ?_)
        · have h := ie h c
          refine r_sub [0, 1] rfl ?_
          exact wX12_enter_b194 h
        · have h := it h c
          refine r_sub [0, 1] rfl ?_
          exact wX12_enter_b161 h
    · have h := it h c
      refine r_aload_n (pc := 140) dX12_enter_140 rfl 0 rfl ?_
      refine r_bipush (pc := 141) dX12_enter_141 kc_bipush_8 ?_
      refine r_bipush (pc := 143) dX12_enter_143 kc_bipush_96 ?_
      obtain ⟨I53, hc54, h⟩ := ob h
      refine r_callV0 (pc := 145) (av := [vI (8 : Int32), vI (96 : Int32)]) (S := []) dX12_enter_145 (kX12_fails hc54) g50 rfl mkX12_521 mwX12_fails rfl ⟨Nat.le_of_ble_eq_true rfl, Nat.le_of_ble_eq_true rfl⟩ (Nat.le_of_ble_eq_true rfl) ⟨Nat.le_refl _, Nat.le_refl _⟩ (fun b => b) ?_
      cases h
      exact r_vret dX12_enter_148
def fX12_enter_b81  (σ : Shp) (R : Nat → Nat → Option Nat) (t : Nat) (I : Nat → Nat → Int32) (J : Nat → Nat → Int64) (x1 : Int32) : Option ((Nat → Nat → Int32) × (Nat → Nat → Int64)) :=
  if x1 = (12 : Int32) then
    if kdx σ t = 13 then
    (fX12_b σ I R t).bind fun r56 =>
    if r56 < 0 then
      (fX12_fails σ I t (8 : Int32) (97 : Int32)).bind fun I58 =>
      some (I58, J)
    else
      ((R t 38) : Option Nat).bind fun a60 =>
      (fX12_a σ I R t).bind fun r61 =>
      if kdx σ a60 = 21 then
      if ¬ (r61 < 0 ∨ lnx σ a60 ≤ Int32.toNatClampNeg r61) then
      (fX12_b σ I R t).bind fun r65 =>
      if (Int32.toInt64 r65) ≤ (J a60 (Int32.toNatClampNeg r61)) then
        fX12_enter_b121 σ R t I J x1
      else
        (fX12_fails σ I t (8 : Int32) (97 : Int32)).bind fun I67 =>
        some (I67, J)
      else none
      else none
    else none
  else
    fX12_enter_b121 σ R t I J x1
theorem wX12_enter_b81 {G : Gx} {l : Launch} {σ : Shp} {I : Nat → Nat → Int32} {J : Nat → Nat → Int64} {D : Nat → Nat → UInt64} {R : Nat → Nat → Option Nat} {t : Nat} {I9 : Nat → Nat → Int32} {J9 : Nat → Nat → Int64} {x1 : Int32} (h : fX12_enter_b81 σ R t I J x1 = some (I9, J9)) : WX12_enter G l σ (σ, I9, J9, D, R) none (σ, I, J, D, R) 81 [(0, vR (some t)), (1, vI x1)] [] := by
  unfold fX12_enter_b81 at h
  refine r_iload_n (pc := 81) dX12_enter_81 rfl 1 rfl ?_
  refine r_bipush (pc := 82) dX12_enter_82 kc_bipush_12 ?_
  refine r_icmp_ne (pc := 84) (tgt := 121) dX12_enter_84 rfl (fun c => ?_) (fun c => ?_)
  · have h := ie h c
    refine r_sub [0, 1] rfl ?_
    exact wX12_enter_b121 h
  · have h := it h c
    refine r_aload_n (pc := 87) dX12_enter_87 rfl 0 rfl ?_
    obtain ⟨g55, h⟩ := gd h
    obtain ⟨r56, hc57, h⟩ := ob h
    refine r_callV1 (pc := 88) (av := []) (S := []) dX12_enter_88 (kX12_b hc57) g55 rfl mkX12_525 mwX12_b rfl ⟨Nat.le_of_ble_eq_true rfl, Nat.le_of_ble_eq_true rfl⟩ (Nat.le_of_ble_eq_true rfl) ⟨Nat.le_refl _, Nat.le_refl _⟩ (fun b => b) ?_
    refine r_if_lt (pc := 91) (tgt := 112) dX12_enter_91 rfl (fun c => ?_) (fun c => ?_)
    · have h := it h c
      refine r_aload_n (pc := 112) dX12_enter_112 rfl 0 rfl ?_
      refine r_bipush (pc := 113) dX12_enter_113 kc_bipush_8 ?_
      refine r_bipush (pc := 115) dX12_enter_115 kc_bipush_97 ?_
      obtain ⟨I58, hc59, h⟩ := ob h
      refine r_callV0 (pc := 117) (av := [vI (8 : Int32), vI (97 : Int32)]) (S := []) dX12_enter_117 (kX12_fails hc59) g55 rfl mkX12_521 mwX12_fails rfl ⟨Nat.le_of_ble_eq_true rfl, Nat.le_of_ble_eq_true rfl⟩ (Nat.le_of_ble_eq_true rfl) ⟨Nat.le_refl _, Nat.le_refl _⟩ (fun b => b) ?_
      cases h
      exact r_vret dX12_enter_120
    · have h := ie h c
      refine r_aload_n (pc := 94) dX12_enter_94 rfl 0 rfl ?_
      obtain ⟨a60, ha60, h⟩ := ob h
      refine r_getS (pc := 95) dX12_enter_95 fgX12_89 rfl g55 ha60 ?_
      refine r_aload_n (pc := 98) dX12_enter_98 rfl 0 rfl ?_
      obtain ⟨r61, hc62, h⟩ := ob h
      refine r_callV1 (pc := 99) (av := []) (S := [vR (some a60)]) dX12_enter_99 (kX12_a hc62) g55 rfl mkX12_518 mwX12_a rfl ⟨Nat.le_of_ble_eq_true rfl, Nat.le_of_ble_eq_true rfl⟩ (Nat.le_of_ble_eq_true rfl) ⟨Nat.le_refl _, Nat.le_refl _⟩ (fun b => b) ?_
      obtain ⟨g63, h⟩ := gd h
      obtain ⟨g64, h⟩ := gd h
      refine r_laload (pc := 102) dX12_enter_102 g63 g64 ?_
      refine r_aload_n (pc := 103) dX12_enter_103 rfl 0 rfl ?_
      obtain ⟨r65, hc66, h⟩ := ob h
      refine r_callV1 (pc := 104) (av := []) (S := [vL (J a60 (Int32.toNatClampNeg r61))]) dX12_enter_104 (kX12_b hc66) g55 rfl mkX12_525 mwX12_b rfl ⟨Nat.le_of_ble_eq_true rfl, Nat.le_of_ble_eq_true rfl⟩ (Nat.le_of_ble_eq_true rfl) ⟨Nat.le_refl _, Nat.le_refl _⟩ (fun b => b) ?_
      refine r_i2l (pc := 107) dX12_enter_107 ?_
      refine r_lcmp (pc := 108) dX12_enter_108 ?_
      refine r_ifge (pc := 109) (tgt := 121) dX12_enter_109 rfl (fun c => ?_) (fun c => ?_)
      · have h := it h (lgc_ge.mp c)
        refine r_sub [0, 1] rfl ?_
        exact wX12_enter_b121 h
      · have h := ie h (fun q => c (lgc_ge.mpr q))
        refine r_aload_n (pc := 112) dX12_enter_112 rfl 0 rfl ?_
        refine r_bipush (pc := 113) dX12_enter_113 kc_bipush_8 ?_
        refine r_bipush (pc := 115) dX12_enter_115 kc_bipush_97 ?_
        obtain ⟨I67, hc68, h⟩ := ob h
        refine r_callV0 (pc := 117) (av := [vI (8 : Int32), vI (97 : Int32)]) (S := []) dX12_enter_117 (kX12_fails hc68) g55 rfl mkX12_521 mwX12_fails rfl ⟨Nat.le_of_ble_eq_true rfl, Nat.le_of_ble_eq_true rfl⟩ (Nat.le_of_ble_eq_true rfl) ⟨Nat.le_refl _, Nat.le_refl _⟩ (fun b => b) ?_
        cases h
        exact r_vret dX12_enter_120
def fX12_enter_b58  (σ : Shp) (R : Nat → Nat → Option Nat) (t : Nat) (I : Nat → Nat → Int32) (J : Nat → Nat → Int64) (x1 : Int32) (x3 : Int32) : Option ((Nat → Nat → Int32) × (Nat → Nat → Int64)) :=
  if x3 = 0 then
    fX12_enter_b81 σ R t I J x1
  else
    if kdx σ t = 13 then
    (fX12_a σ I R t).bind fun r70 =>
    if (fX12_in r70 (0 : Int32) (2 : Int32)) = 0 then
      (fX12_fails σ I t (2 : Int32) (0 : Int32)).bind fun I72 =>
      some (I72, J)
    else
      fX12_enter_b81 σ R t I J x1
    else none
theorem wX12_enter_b58 {G : Gx} {l : Launch} {σ : Shp} {I : Nat → Nat → Int32} {J : Nat → Nat → Int64} {D : Nat → Nat → UInt64} {R : Nat → Nat → Option Nat} {t : Nat} {I9 : Nat → Nat → Int32} {J9 : Nat → Nat → Int64} {x1 : Int32} {x3 : Int32} (h : fX12_enter_b58 σ R t I J x1 x3 = some (I9, J9)) : WX12_enter G l σ (σ, I9, J9, D, R) none (σ, I, J, D, R) 58 [(0, vR (some t)), (1, vI x1), (3, vI x3)] [] := by
  unfold fX12_enter_b58 at h
  refine r_iload_n (pc := 58) dX12_enter_58 rfl 2 rfl ?_
  refine r_if_eq (pc := 59) (tgt := 81) dX12_enter_59 rfl (fun c => ?_) (fun c => ?_)
  · have h := it h c
    refine r_sub [0, 1] rfl ?_
    exact wX12_enter_b81 h
  · have h := ie h c
    refine r_aload_n (pc := 62) dX12_enter_62 rfl 0 rfl ?_
    obtain ⟨g69, h⟩ := gd h
    obtain ⟨r70, hc71, h⟩ := ob h
    refine r_callV1 (pc := 63) (av := []) (S := []) dX12_enter_63 (kX12_a hc71) g69 rfl mkX12_518 mwX12_a rfl ⟨Nat.le_of_ble_eq_true rfl, Nat.le_of_ble_eq_true rfl⟩ (Nat.le_of_ble_eq_true rfl) ⟨Nat.le_refl _, Nat.le_refl _⟩ (fun b => b) ?_
    refine r_iconst (pc := 66) dX12_enter_66 kc_iconst_0 ?_
    refine r_iconst (pc := 67) dX12_enter_67 kc_iconst_2 ?_
    refine r_callS1 (pc := 68) (av := [vI r70, vI (0 : Int32), vI (2 : Int32)]) (S := []) dX12_enter_68 (kX12_in rfl) mkX12_322 mwX12_in rfl ⟨Nat.le_of_ble_eq_true rfl, Nat.le_of_ble_eq_true rfl⟩ (Nat.le_of_ble_eq_true rfl) ⟨Nat.le_refl _, Nat.le_refl _⟩ (fun b => b) ?_
    refine r_ifne (pc := 71) (tgt := 81) dX12_enter_71 rfl (fun c => ?_) (fun c => ?_)
    · have h := ie h c
      refine r_sub [0, 1] rfl ?_
      exact wX12_enter_b81 h
    · have h := it h c
      refine r_aload_n (pc := 74) dX12_enter_74 rfl 0 rfl ?_
      refine r_iconst (pc := 75) dX12_enter_75 kc_iconst_2 ?_
      refine r_iconst (pc := 76) dX12_enter_76 kc_iconst_0 ?_
      obtain ⟨I72, hc73, h⟩ := ob h
      refine r_callV0 (pc := 77) (av := [vI (2 : Int32), vI (0 : Int32)]) (S := []) dX12_enter_77 (kX12_fails hc73) g69 rfl mkX12_521 mwX12_fails rfl ⟨Nat.le_of_ble_eq_true rfl, Nat.le_of_ble_eq_true rfl⟩ (Nat.le_of_ble_eq_true rfl) ⟨Nat.le_refl _, Nat.le_refl _⟩ (fun b => b) ?_
      cases h
      exact r_vret dX12_enter_80
def fX12_enter_b41  (σ : Shp) (R : Nat → Nat → Option Nat) (t : Nat) (I : Nat → Nat → Int32) (J : Nat → Nat → Int64) (x1 : Int32) (x2 : Int32) (s0 : Int32) : Option ((Nat → Nat → Int32) × (Nat → Nat → Int64)) :=
  if x2 = 0 then
    fX12_enter_b58 σ R t I J x1 s0
  else
    if kdx σ t = 13 then
    (fX12_a σ I R t).bind fun r75 =>
    if (fX12_in r75 (0 : Int32) (5 : Int32)) = 0 then
      (fX12_fails σ I t (2 : Int32) (0 : Int32)).bind fun I77 =>
      some (I77, J)
    else
      fX12_enter_b58 σ R t I J x1 s0
    else none
theorem wX12_enter_b41 {G : Gx} {l : Launch} {σ : Shp} {I : Nat → Nat → Int32} {J : Nat → Nat → Int64} {D : Nat → Nat → UInt64} {R : Nat → Nat → Option Nat} {t : Nat} {I9 : Nat → Nat → Int32} {J9 : Nat → Nat → Int64} {x1 : Int32} {x2 : Int32} {s0 : Int32} (h : fX12_enter_b41 σ R t I J x1 x2 s0 = some (I9, J9)) : WX12_enter G l σ (σ, I9, J9, D, R) none (σ, I, J, D, R) 41 [(0, vR (some t)), (1, vI x1), (2, vI x2)] [vI s0] := by
  unfold fX12_enter_b41 at h
  refine r_istore_n (pc := 41) (L' := [(3, vI s0), (0, vR (some t)), (1, vI x1), (2, vI x2)]) dX12_enter_41 rfl (by decide) rfl ?_
  refine r_iload_n (pc := 42) dX12_enter_42 rfl 3 rfl ?_
  refine r_if_eq (pc := 43) (tgt := 58) dX12_enter_43 rfl (fun c => ?_) (fun c => ?_)
  · have h := it h c
    refine r_sub [1, 2, 0] rfl ?_
    exact wX12_enter_b58 h
  · have h := ie h c
    refine r_aload_n (pc := 46) dX12_enter_46 rfl 1 rfl ?_
    obtain ⟨g74, h⟩ := gd h
    obtain ⟨r75, hc76, h⟩ := ob h
    refine r_callV1 (pc := 47) (av := []) (S := []) dX12_enter_47 (kX12_a hc76) g74 rfl mkX12_518 mwX12_a rfl ⟨Nat.le_of_ble_eq_true rfl, Nat.le_of_ble_eq_true rfl⟩ (Nat.le_of_ble_eq_true rfl) ⟨Nat.le_refl _, Nat.le_refl _⟩ (fun b => b) ?_
    refine r_iconst (pc := 50) dX12_enter_50 kc_iconst_0 ?_
    refine r_iconst (pc := 51) dX12_enter_51 kc_iconst_5 ?_
    refine r_callS1 (pc := 52) (av := [vI r75, vI (0 : Int32), vI (5 : Int32)]) (S := []) dX12_enter_52 (kX12_in rfl) mkX12_322 mwX12_in rfl ⟨Nat.le_of_ble_eq_true rfl, Nat.le_of_ble_eq_true rfl⟩ (Nat.le_of_ble_eq_true rfl) ⟨Nat.le_refl _, Nat.le_refl _⟩ (fun b => b) ?_
    refine r_if_eq (pc := 55) (tgt := 74) dX12_enter_55 rfl (fun c => ?_) (fun c => ?_)
    · have h := it h c
      refine r_aload_n (pc := 74) dX12_enter_74 rfl 1 rfl ?_
      refine r_iconst (pc := 75) dX12_enter_75 kc_iconst_2 ?_
      refine r_iconst (pc := 76) dX12_enter_76 kc_iconst_0 ?_
      obtain ⟨I77, hc78, h⟩ := ob h
      refine r_callV0 (pc := 77) (av := [vI (2 : Int32), vI (0 : Int32)]) (S := []) dX12_enter_77 (kX12_fails hc78) g74 rfl mkX12_521 mwX12_fails rfl ⟨Nat.le_of_ble_eq_true rfl, Nat.le_of_ble_eq_true rfl⟩ (Nat.le_of_ble_eq_true rfl) ⟨Nat.le_refl _, Nat.le_refl _⟩ (fun b => b) ?_
      cases h
      exact r_vret dX12_enter_80
    · have h := ie h c
      refine r_sub [1, 2, 0] rfl ?_
      exact wX12_enter_b58 h
def fX12_enter_b23  (σ : Shp) (R : Nat → Nat → Option Nat) (t : Nat) (I : Nat → Nat → Int32) (J : Nat → Nat → Int64) (x1 : Int32) (s0 : Int32) : Option ((Nat → Nat → Int32) × (Nat → Nat → Int64)) :=
  if x1 = (11 : Int32) then
    fX12_enter_b41 σ R t I J x1 s0 (1 : Int32)
  else
    if x1 = (13 : Int32) then
      fX12_enter_b41 σ R t I J x1 s0 (1 : Int32)
    else
      fX12_enter_b41 σ R t I J x1 s0 (0 : Int32)
theorem wX12_enter_b23 {G : Gx} {l : Launch} {σ : Shp} {I : Nat → Nat → Int32} {J : Nat → Nat → Int64} {D : Nat → Nat → UInt64} {R : Nat → Nat → Option Nat} {t : Nat} {I9 : Nat → Nat → Int32} {J9 : Nat → Nat → Int64} {x1 : Int32} {s0 : Int32} (h : fX12_enter_b23 σ R t I J x1 s0 = some (I9, J9)) : WX12_enter G l σ (σ, I9, J9, D, R) none (σ, I, J, D, R) 23 [(0, vR (some t)), (1, vI x1)] [vI s0] := by
  unfold fX12_enter_b23 at h
  refine r_istore_n (pc := 23) (L' := [(2, vI s0), (0, vR (some t)), (1, vI x1)]) dX12_enter_23 rfl (by decide) rfl ?_
  refine r_iload_n (pc := 24) dX12_enter_24 rfl 2 rfl ?_
  refine r_bipush (pc := 25) dX12_enter_25 kc_bipush_11 ?_
  refine r_icmp_eq (pc := 27) (tgt := 36) dX12_enter_27 rfl (fun c => ?_) (fun c => ?_)
  · have h := it h c
    refine r_iconst (pc := 36) dX12_enter_36 kc_iconst_1 ?_
    refine r_goto (pc := 37) (tgt := 41) dX12_enter_37 rfl ?_
    refine r_sub [1, 2, 0] rfl ?_
    exact wX12_enter_b41 h
  · have h := ie h c
    refine r_iload_n (pc := 30) dX12_enter_30 rfl 2 rfl ?_
    refine r_bipush (pc := 31) dX12_enter_31 kc_bipush_13 ?_
    refine r_icmp_ne (pc := 33) (tgt := 40) dX12_enter_33 rfl (fun c => ?_) (fun c => ?_)
    · have h := ie h c
      refine r_iconst (pc := 40) dX12_enter_40 kc_iconst_0 ?_
      refine r_sub [1, 2, 0] rfl ?_
      exact wX12_enter_b41 h
    · have h := it h c
      refine r_iconst (pc := 36) dX12_enter_36 kc_iconst_1 ?_
      refine r_goto (pc := 37) (tgt := 41) dX12_enter_37 rfl ?_
      refine r_sub [1, 2, 0] rfl ?_
      exact wX12_enter_b41 h
def fX12_enter (σ : Shp) (I : Nat → Nat → Int32) (J : Nat → Nat → Int64) (R : Nat → Nat → Option Nat) (t : Nat) (x1 : Int32) : Option ((Nat → Nat → Int32) × (Nat → Nat → Int64)) :=
  if x1 = (12 : Int32) then
    fX12_enter_b23 σ R t I J x1 (1 : Int32)
  else
    if x1 = (19 : Int32) then
      fX12_enter_b23 σ R t I J x1 (1 : Int32)
    else
      if x1 = (20 : Int32) then
        fX12_enter_b23 σ R t I J x1 (1 : Int32)
      else
        fX12_enter_b23 σ R t I J x1 (0 : Int32)
theorem kX12_enter {G : Gx} {l : Launch} {σ : Shp} {I : Nat → Nat → Int32} {J : Nat → Nat → Int64} {D : Nat → Nat → UInt64} {R : Nat → Nat → Option Nat} {t : Nat} {x1 : Int32} {I9 : Nat → Nat → Int32} {J9 : Nat → Nat → Int64} (h : fX12_enter σ I J R t x1 = some (I9, J9)) : Con G l yX12_enter cX12_enter 5 none 2 46 [vR (some t), vI x1] (σ, I, J, D, R) (σ, I9, J9, D, R) none := by
  unfold fX12_enter at h
  refine Con.mk (by decide +kernel) rfl (Nat.le_of_ble_eq_true rfl) ?_
  show WX12_enter G l σ (σ, I9, J9, D, R) none (σ, I, J, D, R) 0 _ []
  refine r_iload_n (pc := 0) dX12_enter_0 rfl 1 rfl ?_
  refine r_bipush (pc := 1) dX12_enter_1 kc_bipush_12 ?_
  refine r_icmp_eq (pc := 3) (tgt := 18) dX12_enter_3 rfl (fun c => ?_) (fun c => ?_)
  · have h := it h c
    refine r_iconst (pc := 18) dX12_enter_18 kc_iconst_1 ?_
    refine r_goto (pc := 19) (tgt := 23) dX12_enter_19 rfl ?_
    refine r_sub [0, 1] rfl ?_
    exact wX12_enter_b23 h
  · have h := ie h c
    refine r_iload_n (pc := 6) dX12_enter_6 rfl 1 rfl ?_
    refine r_bipush (pc := 7) dX12_enter_7 kc_bipush_19 ?_
    refine r_icmp_eq (pc := 9) (tgt := 18) dX12_enter_9 rfl (fun c => ?_) (fun c => ?_)
    · have h := it h c
      refine r_iconst (pc := 18) dX12_enter_18 kc_iconst_1 ?_
      refine r_goto (pc := 19) (tgt := 23) dX12_enter_19 rfl ?_
      refine r_sub [0, 1] rfl ?_
      exact wX12_enter_b23 h
    · have h := ie h c
      refine r_iload_n (pc := 12) dX12_enter_12 rfl 1 rfl ?_
      refine r_bipush (pc := 13) dX12_enter_13 kc_bipush_20 ?_
      refine r_icmp_ne (pc := 15) (tgt := 22) dX12_enter_15 rfl (fun c => ?_) (fun c => ?_)
      · have h := ie h c
        refine r_iconst (pc := 22) dX12_enter_22 kc_iconst_0 ?_
        refine r_sub [0, 1] rfl ?_
        exact wX12_enter_b23 h
      · have h := it h c
        refine r_iconst (pc := 18) dX12_enter_18 kc_iconst_1 ?_
        refine r_goto (pc := 19) (tgt := 23) dX12_enter_19 rfl ?_
        refine r_sub [0, 1] rfl ?_
        exact wX12_enter_b23 h
abbrev WX12_areNumbers (G : Gx) (l : Launch) (σ0 : Shp) (X1 : Stt) (rv : Option SV) : Stt → Nat → List (Nat × SV) → List SV → Prop := Wm G l yX12_areNumbers cX12_areNumbers 2 (some .boolean) (fun _ => True) (rmx 1 22 σ0 X1.1) σ0 (Qmx G σ0 X1 rv)
def fX12_areNumbers (σ : Shp) (I : Nat → Nat → Int32) (R : Nat → Nat → Option Nat) (t : Nat) (x1 : Int32) : Option ((Int32)) :=
  if x1 = (1 : Int32) then
    if kdx σ t = 13 then
    (fX12_a σ I R t).bind fun r39 =>
    some (fX12_in r39 (0 : Int32) (5 : Int32))
    else none
  else
  if x1 = (2 : Int32) then
    if kdx σ t = 13 then
    (fX12_a σ I R t).bind fun r36 =>
    some (fX12_in r36 (0 : Int32) (5 : Int32))
    else none
  else
  if x1 = (3 : Int32) then
    if kdx σ t = 13 then
    (fX12_a σ I R t).bind fun r33 =>
    some (fX12_isBin r33)
    else none
  else
  if x1 = (4 : Int32) then
    if kdx σ t = 13 then
    (fX12_a σ I R t).bind fun r28 =>
    if (fX12_isBin r28) = 0 then
      some (0 : Int32)
    else
      (fX12_c σ I R t).bind fun r30 =>
      if (fX12_in r30 (0 : Int32) (5 : Int32)) = 0 then
        some (0 : Int32)
      else
        some (1 : Int32)
    else none
  else
  if x1 = (5 : Int32) then
    if kdx σ t = 13 then
    (fX12_a σ I R t).bind fun r25 =>
    some (fX12_isBin r25)
    else none
  else
  if x1 = (6 : Int32) then
    if kdx σ t = 13 then
    (fX12_a σ I R t).bind fun r18 =>
    if (fX12_isBin r18) = 0 then
      some (0 : Int32)
    else
      (fX12_b σ I R t).bind fun r20 =>
      if (fX12_in r20 (0 : Int32) (3 : Int32)) = 0 then
        some (0 : Int32)
      else
        (fX12_c σ I R t).bind fun r22 =>
        if (fX12_in r22 (0 : Int32) (5 : Int32)) = 0 then
          some (0 : Int32)
        else
          some (1 : Int32)
    else none
  else
  if x1 = (7 : Int32) then
    some (1 : Int32)
  else
  if x1 = (8 : Int32) then
    some (1 : Int32)
  else
  if x1 = (9 : Int32) then
    if kdx σ t = 13 then
    (fX12_a σ I R t).bind fun r15 =>
    some (fX12_in r15 (0 : Int32) (2 : Int32))
    else none
  else
  if x1 = (10 : Int32) then
    if kdx σ t = 13 then
    (fX12_a σ I R t).bind fun r12 =>
    some (fX12_in r12 (0 : Int32) (3 : Int32))
    else none
  else
  some (1 : Int32)
theorem kX12_areNumbers {G : Gx} {l : Launch} {σ : Shp} {I : Nat → Nat → Int32} {J : Nat → Nat → Int64} {D : Nat → Nat → UInt64} {R : Nat → Nat → Option Nat} {t : Nat} {x1 : Int32} {r9 : Int32} (h : fX12_areNumbers σ I R t x1 = some r9) : Con G l yX12_areNumbers cX12_areNumbers 2 (some .boolean) 1 22 [vR (some t), vI x1] (σ, I, J, D, R) (σ, I, J, D, R) (some (vI r9)) := by
  unfold fX12_areNumbers at h
  refine Con.mk (by decide +kernel) rfl (Nat.le_of_ble_eq_true rfl) ?_
  show WX12_areNumbers G l σ (σ, I, J, D, R) (some (vI r9)) (σ, I, J, D, R) 0 _ []
  refine r_iload_n (pc := 0) dX12_areNumbers_0 rfl 1 rfl ?_
  rcases itc h with ⟨c1, h⟩ | ⟨c1, h⟩
  · refine r_tsIn (x := x1) (pc := 1) (tgt := 56) dX12_areNumbers_1 (by rw [c1]; decide) (by rw [c1]; decide) (by rw [c1]; rfl) rfl ?_
    refine r_aload_n (pc := 56) dX12_areNumbers_56 rfl 0 rfl ?_
    obtain ⟨g38, h⟩ := gd h
    obtain ⟨r39, hc40, h⟩ := ob h
    refine r_callV1 (pc := 57) (av := []) (S := []) dX12_areNumbers_57 (kX12_a hc40) g38 rfl mkX12_518 mwX12_a rfl ⟨Nat.le_of_ble_eq_true rfl, Nat.le_of_ble_eq_true rfl⟩ (Nat.le_of_ble_eq_true rfl) ⟨Nat.le_refl _, Nat.le_refl _⟩ (fun b => b) ?_
    refine r_iconst (pc := 60) dX12_areNumbers_60 kc_iconst_0 ?_
    refine r_iconst (pc := 61) dX12_areNumbers_61 kc_iconst_5 ?_
    refine r_callS1 (pc := 62) (av := [vI r39, vI (0 : Int32), vI (5 : Int32)]) (S := []) dX12_areNumbers_62 (kX12_in rfl) mkX12_322 mwX12_in rfl ⟨Nat.le_of_ble_eq_true rfl, Nat.le_of_ble_eq_true rfl⟩ (Nat.le_of_ble_eq_true rfl) ⟨Nat.le_refl _, Nat.le_refl _⟩ (fun b => b) ?_
    cases h
    exact r_zret dX12_areNumbers_65 (zX12_in r39 (0 : Int32) (5 : Int32))
  · rcases itc h with ⟨c2, h⟩ | ⟨c2, h⟩
    · refine r_tsIn (x := x1) (pc := 1) (tgt := 56) dX12_areNumbers_1 (by rw [c2]; decide) (by rw [c2]; decide) (by rw [c2]; rfl) rfl ?_
      refine r_aload_n (pc := 56) dX12_areNumbers_56 rfl 0 rfl ?_
      obtain ⟨g35, h⟩ := gd h
      obtain ⟨r36, hc37, h⟩ := ob h
      refine r_callV1 (pc := 57) (av := []) (S := []) dX12_areNumbers_57 (kX12_a hc37) g35 rfl mkX12_518 mwX12_a rfl ⟨Nat.le_of_ble_eq_true rfl, Nat.le_of_ble_eq_true rfl⟩ (Nat.le_of_ble_eq_true rfl) ⟨Nat.le_refl _, Nat.le_refl _⟩ (fun b => b) ?_
      refine r_iconst (pc := 60) dX12_areNumbers_60 kc_iconst_0 ?_
      refine r_iconst (pc := 61) dX12_areNumbers_61 kc_iconst_5 ?_
      refine r_callS1 (pc := 62) (av := [vI r36, vI (0 : Int32), vI (5 : Int32)]) (S := []) dX12_areNumbers_62 (kX12_in rfl) mkX12_322 mwX12_in rfl ⟨Nat.le_of_ble_eq_true rfl, Nat.le_of_ble_eq_true rfl⟩ (Nat.le_of_ble_eq_true rfl) ⟨Nat.le_refl _, Nat.le_refl _⟩ (fun b => b) ?_
      cases h
      exact r_zret dX12_areNumbers_65 (zX12_in r36 (0 : Int32) (5 : Int32))
    · rcases itc h with ⟨c3, h⟩ | ⟨c3, h⟩
      · refine r_tsIn (x := x1) (pc := 1) (tgt := 66) dX12_areNumbers_1 (by rw [c3]; decide) (by rw [c3]; decide) (by rw [c3]; rfl) rfl ?_
        refine r_aload_n (pc := 66) dX12_areNumbers_66 rfl 0 rfl ?_
        obtain ⟨g32, h⟩ := gd h
        obtain ⟨r33, hc34, h⟩ := ob h
        refine r_callV1 (pc := 67) (av := []) (S := []) dX12_areNumbers_67 (kX12_a hc34) g32 rfl mkX12_518 mwX12_a rfl ⟨Nat.le_of_ble_eq_true rfl, Nat.le_of_ble_eq_true rfl⟩ (Nat.le_of_ble_eq_true rfl) ⟨Nat.le_refl _, Nat.le_refl _⟩ (fun b => b) ?_
        refine r_callS1 (pc := 70) (av := [vI r33]) (S := []) dX12_areNumbers_70 (kX12_isBin rfl) mkX12_345 mwX12_isBin rfl ⟨Nat.le_of_ble_eq_true rfl, Nat.le_of_ble_eq_true rfl⟩ (Nat.le_of_ble_eq_true rfl) ⟨Nat.le_refl _, Nat.le_refl _⟩ (fun b => b) ?_
        cases h
        exact r_zret dX12_areNumbers_73 (zX12_isBin r33)
      · rcases itc h with ⟨c4, h⟩ | ⟨c4, h⟩
        · refine r_tsIn (x := x1) (pc := 1) (tgt := 74) dX12_areNumbers_1 (by rw [c4]; decide) (by rw [c4]; decide) (by rw [c4]; rfl) rfl ?_
          refine r_aload_n (pc := 74) dX12_areNumbers_74 rfl 0 rfl ?_
          obtain ⟨g27, h⟩ := gd h
          obtain ⟨r28, hc29, h⟩ := ob h
          refine r_callV1 (pc := 75) (av := []) (S := []) dX12_areNumbers_75 (kX12_a hc29) g27 rfl mkX12_518 mwX12_a rfl ⟨Nat.le_of_ble_eq_true rfl, Nat.le_of_ble_eq_true rfl⟩ (Nat.le_of_ble_eq_true rfl) ⟨Nat.le_refl _, Nat.le_refl _⟩ (fun b => b) ?_
          refine r_callS1 (pc := 78) (av := [vI r28]) (S := []) dX12_areNumbers_78 (kX12_isBin rfl) mkX12_345 mwX12_isBin rfl ⟨Nat.le_of_ble_eq_true rfl, Nat.le_of_ble_eq_true rfl⟩ (Nat.le_of_ble_eq_true rfl) ⟨Nat.le_refl _, Nat.le_refl _⟩ (fun b => b) ?_
          refine r_if_eq (pc := 81) (tgt := 100) dX12_areNumbers_81 rfl (fun c => ?_) (fun c => ?_)
          · have h := it h c
            refine r_iconst (pc := 100) dX12_areNumbers_100 kc_iconst_0 ?_
            cases h
            exact r_zret dX12_areNumbers_101 (Or.inl rfl)
          · have h := ie h c
            refine r_aload_n (pc := 84) dX12_areNumbers_84 rfl 0 rfl ?_
            obtain ⟨r30, hc31, h⟩ := ob h
            refine r_callV1 (pc := 85) (av := []) (S := []) dX12_areNumbers_85 (kX12_c hc31) g27 rfl mkX12_540 mwX12_c rfl ⟨Nat.le_of_ble_eq_true rfl, Nat.le_of_ble_eq_true rfl⟩ (Nat.le_of_ble_eq_true rfl) ⟨Nat.le_refl _, Nat.le_refl _⟩ (fun b => b) ?_
            refine r_iconst (pc := 88) dX12_areNumbers_88 kc_iconst_0 ?_
            refine r_iconst (pc := 89) dX12_areNumbers_89 kc_iconst_5 ?_
            refine r_callS1 (pc := 90) (av := [vI r30, vI (0 : Int32), vI (5 : Int32)]) (S := []) dX12_areNumbers_90 (kX12_in rfl) mkX12_322 mwX12_in rfl ⟨Nat.le_of_ble_eq_true rfl, Nat.le_of_ble_eq_true rfl⟩ (Nat.le_of_ble_eq_true rfl) ⟨Nat.le_refl _, Nat.le_refl _⟩ (fun b => b) ?_
            refine r_if_eq (pc := 93) (tgt := 100) dX12_areNumbers_93 rfl (fun c => ?_) (fun c => ?_)
            · have h := it h c
              refine r_iconst (pc := 100) dX12_areNumbers_100 kc_iconst_0 ?_
              cases h
              exact r_zret dX12_areNumbers_101 (Or.inl rfl)
            · have h := ie h c
              refine r_iconst (pc := 96) dX12_areNumbers_96 kc_iconst_1 ?_
              refine r_goto (pc := 97) (tgt := 101) dX12_areNumbers_97 rfl ?_
              cases h
              exact r_zret dX12_areNumbers_101 (Or.inr rfl)
        · rcases itc h with ⟨c5, h⟩ | ⟨c5, h⟩
          · refine r_tsIn (x := x1) (pc := 1) (tgt := 66) dX12_areNumbers_1 (by rw [c5]; decide) (by rw [c5]; decide) (by rw [c5]; rfl) rfl ?_
            refine r_aload_n (pc := 66) dX12_areNumbers_66 rfl 0 rfl ?_
            obtain ⟨g24, h⟩ := gd h
            obtain ⟨r25, hc26, h⟩ := ob h
            refine r_callV1 (pc := 67) (av := []) (S := []) dX12_areNumbers_67 (kX12_a hc26) g24 rfl mkX12_518 mwX12_a rfl ⟨Nat.le_of_ble_eq_true rfl, Nat.le_of_ble_eq_true rfl⟩ (Nat.le_of_ble_eq_true rfl) ⟨Nat.le_refl _, Nat.le_refl _⟩ (fun b => b) ?_
            refine r_callS1 (pc := 70) (av := [vI r25]) (S := []) dX12_areNumbers_70 (kX12_isBin rfl) mkX12_345 mwX12_isBin rfl ⟨Nat.le_of_ble_eq_true rfl, Nat.le_of_ble_eq_true rfl⟩ (Nat.le_of_ble_eq_true rfl) ⟨Nat.le_refl _, Nat.le_refl _⟩ (fun b => b) ?_
            cases h
            exact r_zret dX12_areNumbers_73 (zX12_isBin r25)
          · rcases itc h with ⟨c6, h⟩ | ⟨c6, h⟩
            · refine r_tsIn (x := x1) (pc := 1) (tgt := 102) dX12_areNumbers_1 (by rw [c6]; decide) (by rw [c6]; decide) (by rw [c6]; rfl) rfl ?_
              refine r_aload_n (pc := 102) dX12_areNumbers_102 rfl 0 rfl ?_
              obtain ⟨g17, h⟩ := gd h
              obtain ⟨r18, hc19, h⟩ := ob h
              refine r_callV1 (pc := 103) (av := []) (S := []) dX12_areNumbers_103 (kX12_a hc19) g17 rfl mkX12_518 mwX12_a rfl ⟨Nat.le_of_ble_eq_true rfl, Nat.le_of_ble_eq_true rfl⟩ (Nat.le_of_ble_eq_true rfl) ⟨Nat.le_refl _, Nat.le_refl _⟩ (fun b => b) ?_
              refine r_callS1 (pc := 106) (av := [vI r18]) (S := []) dX12_areNumbers_106 (kX12_isBin rfl) mkX12_345 mwX12_isBin rfl ⟨Nat.le_of_ble_eq_true rfl, Nat.le_of_ble_eq_true rfl⟩ (Nat.le_of_ble_eq_true rfl) ⟨Nat.le_refl _, Nat.le_refl _⟩ (fun b => b) ?_
              refine r_if_eq (pc := 109) (tgt := 140) dX12_areNumbers_109 rfl (fun c => ?_) (fun c => ?_)
              · have h := it h c
                refine r_iconst (pc := 140) dX12_areNumbers_140 kc_iconst_0 ?_
                cases h
                exact r_zret dX12_areNumbers_141 (Or.inl rfl)
              · have h := ie h c
                refine r_aload_n (pc := 112) dX12_areNumbers_112 rfl 0 rfl ?_
                obtain ⟨r20, hc21, h⟩ := ob h
                refine r_callV1 (pc := 113) (av := []) (S := []) dX12_areNumbers_113 (kX12_b hc21) g17 rfl mkX12_525 mwX12_b rfl ⟨Nat.le_of_ble_eq_true rfl, Nat.le_of_ble_eq_true rfl⟩ (Nat.le_of_ble_eq_true rfl) ⟨Nat.le_refl _, Nat.le_refl _⟩ (fun b => b) ?_
                refine r_iconst (pc := 116) dX12_areNumbers_116 kc_iconst_0 ?_
                refine r_iconst (pc := 117) dX12_areNumbers_117 kc_iconst_3 ?_
                refine r_callS1 (pc := 118) (av := [vI r20, vI (0 : Int32), vI (3 : Int32)]) (S := []) dX12_areNumbers_118 (kX12_in rfl) mkX12_322 mwX12_in rfl ⟨Nat.le_of_ble_eq_true rfl, Nat.le_of_ble_eq_true rfl⟩ (Nat.le_of_ble_eq_true rfl) ⟨Nat.le_refl _, Nat.le_refl _⟩ (fun b => b) ?_
                refine r_if_eq (pc := 121) (tgt := 140) dX12_areNumbers_121 rfl (fun c => ?_) (fun c => ?_)
                · have h := it h c
                  refine r_iconst (pc := 140) dX12_areNumbers_140 kc_iconst_0 ?_
                  cases h
                  exact r_zret dX12_areNumbers_141 (Or.inl rfl)
                · have h := ie h c
                  refine r_aload_n (pc := 124) dX12_areNumbers_124 rfl 0 rfl ?_
                  obtain ⟨r22, hc23, h⟩ := ob h
                  refine r_callV1 (pc := 125) (av := []) (S := []) dX12_areNumbers_125 (kX12_c hc23) g17 rfl mkX12_540 mwX12_c rfl ⟨Nat.le_of_ble_eq_true rfl, Nat.le_of_ble_eq_true rfl⟩ (Nat.le_of_ble_eq_true rfl) ⟨Nat.le_refl _, Nat.le_refl _⟩ (fun b => b) ?_
                  refine r_iconst (pc := 128) dX12_areNumbers_128 kc_iconst_0 ?_
                  refine r_iconst (pc := 129) dX12_areNumbers_129 kc_iconst_5 ?_
                  refine r_callS1 (pc := 130) (av := [vI r22, vI (0 : Int32), vI (5 : Int32)]) (S := []) dX12_areNumbers_130 (kX12_in rfl) mkX12_322 mwX12_in rfl ⟨Nat.le_of_ble_eq_true rfl, Nat.le_of_ble_eq_true rfl⟩ (Nat.le_of_ble_eq_true rfl) ⟨Nat.le_refl _, Nat.le_refl _⟩ (fun b => b) ?_
                  refine r_if_eq (pc := 133) (tgt := 140) dX12_areNumbers_133 rfl (fun c => ?_) (fun c => ?_)
                  · have h := it h c
                    refine r_iconst (pc := 140) dX12_areNumbers_140 kc_iconst_0 ?_
                    cases h
                    exact r_zret dX12_areNumbers_141 (Or.inl rfl)
                  · have h := ie h c
                    refine r_iconst (pc := 136) dX12_areNumbers_136 kc_iconst_1 ?_
                    refine r_goto (pc := 137) (tgt := 141) dX12_areNumbers_137 rfl ?_
                    cases h
                    exact r_zret dX12_areNumbers_141 (Or.inr rfl)
            · rcases itc h with ⟨c7, h⟩ | ⟨c7, h⟩
              · refine r_tsIn (x := x1) (pc := 1) (tgt := 162) dX12_areNumbers_1 (by rw [c7]; decide) (by rw [c7]; decide) (by rw [c7]; rfl) rfl ?_
                refine r_iconst (pc := 162) dX12_areNumbers_162 kc_iconst_1 ?_
                cases h
                exact r_zret dX12_areNumbers_163 (Or.inr rfl)
              · rcases itc h with ⟨c8, h⟩ | ⟨c8, h⟩
                · refine r_tsIn (x := x1) (pc := 1) (tgt := 162) dX12_areNumbers_1 (by rw [c8]; decide) (by rw [c8]; decide) (by rw [c8]; rfl) rfl ?_
                  refine r_iconst (pc := 162) dX12_areNumbers_162 kc_iconst_1 ?_
                  cases h
                  exact r_zret dX12_areNumbers_163 (Or.inr rfl)
                · rcases itc h with ⟨c9, h⟩ | ⟨c9, h⟩
                  · refine r_tsIn (x := x1) (pc := 1) (tgt := 142) dX12_areNumbers_1 (by rw [c9]; decide) (by rw [c9]; decide) (by rw [c9]; rfl) rfl ?_
                    refine r_aload_n (pc := 142) dX12_areNumbers_142 rfl 0 rfl ?_
                    obtain ⟨g14, h⟩ := gd h
                    obtain ⟨r15, hc16, h⟩ := ob h
                    refine r_callV1 (pc := 143) (av := []) (S := []) dX12_areNumbers_143 (kX12_a hc16) g14 rfl mkX12_518 mwX12_a rfl ⟨Nat.le_of_ble_eq_true rfl, Nat.le_of_ble_eq_true rfl⟩ (Nat.le_of_ble_eq_true rfl) ⟨Nat.le_refl _, Nat.le_refl _⟩ (fun b => b) ?_
                    refine r_iconst (pc := 146) dX12_areNumbers_146 kc_iconst_0 ?_
                    refine r_iconst (pc := 147) dX12_areNumbers_147 kc_iconst_2 ?_
                    refine r_callS1 (pc := 148) (av := [vI r15, vI (0 : Int32), vI (2 : Int32)]) (S := []) dX12_areNumbers_148 (kX12_in rfl) mkX12_322 mwX12_in rfl ⟨Nat.le_of_ble_eq_true rfl, Nat.le_of_ble_eq_true rfl⟩ (Nat.le_of_ble_eq_true rfl) ⟨Nat.le_refl _, Nat.le_refl _⟩ (fun b => b) ?_
                    cases h
                    exact r_zret dX12_areNumbers_151 (zX12_in r15 (0 : Int32) (2 : Int32))
                  · rcases itc h with ⟨c10, h⟩ | ⟨c10, h⟩
                    · refine r_tsIn (x := x1) (pc := 1) (tgt := 152) dX12_areNumbers_1 (by rw [c10]; decide) (by rw [c10]; decide) (by rw [c10]; rfl) rfl ?_
                      refine r_aload_n (pc := 152) dX12_areNumbers_152 rfl 0 rfl ?_
                      obtain ⟨g11, h⟩ := gd h
                      obtain ⟨r12, hc13, h⟩ := ob h
                      refine r_callV1 (pc := 153) (av := []) (S := []) dX12_areNumbers_153 (kX12_a hc13) g11 rfl mkX12_518 mwX12_a rfl ⟨Nat.le_of_ble_eq_true rfl, Nat.le_of_ble_eq_true rfl⟩ (Nat.le_of_ble_eq_true rfl) ⟨Nat.le_refl _, Nat.le_refl _⟩ (fun b => b) ?_
                      refine r_iconst (pc := 156) dX12_areNumbers_156 kc_iconst_0 ?_
                      refine r_iconst (pc := 157) dX12_areNumbers_157 kc_iconst_3 ?_
                      refine r_callS1 (pc := 158) (av := [vI r12, vI (0 : Int32), vI (3 : Int32)]) (S := []) dX12_areNumbers_158 (kX12_in rfl) mkX12_322 mwX12_in rfl ⟨Nat.le_of_ble_eq_true rfl, Nat.le_of_ble_eq_true rfl⟩ (Nat.le_of_ble_eq_true rfl) ⟨Nat.le_refl _, Nat.le_refl _⟩ (fun b => b) ?_
                      cases h
                      exact r_zret dX12_areNumbers_161 (zX12_in r12 (0 : Int32) (3 : Int32))
                    · refine r_tsOut (x := x1) (pc := 1) (tgt := 162) dX12_areNumbers_1 (by have ec1 := i32n c1 (k := 1) rfl; have ec2 := i32n c2 (k := 2) rfl; have ec3 := i32n c3 (k := 3) rfl; have ec4 := i32n c4 (k := 4) rfl; have ec5 := i32n c5 (k := 5) rfl; have ec6 := i32n c6 (k := 6) rfl; have ec7 := i32n c7 (k := 7) rfl; have ec8 := i32n c8 (k := 8) rfl; have ec9 := i32n c9 (k := 9) rfl; have ec10 := i32n c10 (k := 10) rfl; omega) rfl ?_
                      refine r_iconst (pc := 162) dX12_areNumbers_162 kc_iconst_1 ?_
                      cases h
                      exact r_zret dX12_areNumbers_163 (Or.inr rfl)
abbrev WX12_plain (G : Gx) (l : Launch) (σ0 : Shp) (X1 : Stt) (rv : Option SV) : Stt → Nat → List (Nat × SV) → List SV → Prop := Wm G l yX12_plain cX12_plain 7 (some .int) (fun _ => True) (rmx 6 136 σ0 X1.1) σ0 (Qmx G σ0 X1 rv)
def fX12_plain_b100  (σ : Shp) (R : Nat → Nat → Option Nat) (t : Nat) (I : Nat → Nat → Int32) (J : Nat → Nat → Int64) (x1 : Int32) : Option ((Nat → Nat → Int32) × (Nat → Nat → Int64) × (Int32)) :=
  if kdx σ t = 13 then
  ((R t 3) : Option Nat).bind fun a47 =>
  (fX12_a σ I R t).bind fun r48 =>
  if kdx σ a47 = 20 then
  if ¬ (r48 < 0 ∨ lnx σ a47 ≤ Int32.toNatClampNeg r48) then
  let v52 := (I a47 (Int32.toNatClampNeg r48))
  (fX12_b σ I R t).bind fun r53 =>
  (fX12_against σ I R t v52 (4 : Int32) r53).bind fun r55 =>
  if r55 = 0 then
    if x1 = (3 : Int32) then
      ((R t 6) : Option Nat).bind fun a70 =>
      if kdx σ a70 = 20 then
      if ¬ (v52 < 0 ∨ lnx σ a70 ≤ Int32.toNatClampNeg v52) then
      (fX12_b σ I R t).bind fun r73 =>
      (fX12_c σ I R t).bind fun r75 =>
      (fX12_setCell σ I J R t ((I a70 (Int32.toNatClampNeg v52)) + r73) (Int32.toInt64 r75)).bind fun (I77, J78) =>
      some (I77, J78, (0 : Int32))
      else none
      else none
    else
      (fX12_c σ I R t).bind fun r57 =>
      ((R t 8) : Option Nat).bind fun a59 =>
      ((R t 6) : Option Nat).bind fun a60 =>
      if kdx σ a60 = 20 then
      if ¬ (v52 < 0 ∨ lnx σ a60 ≤ Int32.toNatClampNeg v52) then
      (fX12_b σ I R t).bind fun r63 =>
      if kdx σ a59 = 21 then
      if ¬ (((I a60 (Int32.toNatClampNeg v52)) + r63) < 0 ∨ lnx σ a59 ≤ Int32.toNatClampNeg ((I a60 (Int32.toNatClampNeg v52)) + r63)) then
      (fX12_changeStock σ I J R t r57 (J a59 (Int32.toNatClampNeg ((I a60 (Int32.toNatClampNeg v52)) + r63)))).bind fun (I67, J68) =>
      some (I67, J68, (0 : Int32))
      else none
      else none
      else none
      else none
  else
    some (I, J, r55)
  else none
  else none
  else none
theorem wX12_plain_b100 {G : Gx} {l : Launch} {σ : Shp} {I : Nat → Nat → Int32} {J : Nat → Nat → Int64} {D : Nat → Nat → UInt64} {R : Nat → Nat → Option Nat} {t : Nat} {I9 : Nat → Nat → Int32} {J9 : Nat → Nat → Int64} {r9 : Int32} {x1 : Int32} (h : fX12_plain_b100 σ R t I J x1 = some (I9, J9, r9)) : WX12_plain G l σ (σ, I9, J9, D, R) (some (vI r9)) (σ, I, J, D, R) 100 [(0, vR (some t)), (1, vI x1)] [] := by
  unfold fX12_plain_b100 at h
  refine r_aload_n (pc := 100) dX12_plain_100 rfl 0 rfl ?_
  obtain ⟨g46, h⟩ := gd h
  obtain ⟨a47, ha47, h⟩ := ob h
  refine r_getS (pc := 101) dX12_plain_101 fgX12_9 rfl g46 ha47 ?_
  refine r_aload_n (pc := 104) dX12_plain_104 rfl 0 rfl ?_
  obtain ⟨r48, hc49, h⟩ := ob h
  refine r_callV1 (pc := 105) (av := []) (S := [vR (some a47)]) dX12_plain_105 (kX12_a hc49) g46 rfl mkX12_518 mwX12_a rfl ⟨Nat.le_of_ble_eq_true rfl, Nat.le_of_ble_eq_true rfl⟩ (Nat.le_of_ble_eq_true rfl) ⟨Nat.le_refl _, Nat.le_refl _⟩ (fun b => b) ?_
  obtain ⟨g50, h⟩ := gd h
  obtain ⟨g51, h⟩ := gd h
  refine r_iaload (pc := 108) dX12_plain_108 g50 g51 ?_
  refine r_istore_n (pc := 109) (L' := [(2, vI (I a47 (Int32.toNatClampNeg r48))), (0, vR (some t)), (1, vI x1)]) dX12_plain_109 rfl (by decide) rfl ?_
  refine r_aload_n (pc := 110) dX12_plain_110 rfl 1 rfl ?_
  refine r_iload_n (pc := 111) dX12_plain_111 rfl 0 rfl ?_
  refine r_iconst (pc := 112) dX12_plain_112 kc_iconst_4 ?_
  refine r_aload_n (pc := 113) dX12_plain_113 rfl 1 rfl ?_
  obtain ⟨r53, hc54, h⟩ := ob h
  refine r_callV1 (pc := 114) (av := []) (S := [vI (4 : Int32), vI (I a47 (Int32.toNatClampNeg r48)), vR (some t)]) dX12_plain_114 (kX12_b hc54) g46 rfl mkX12_525 mwX12_b rfl ⟨Nat.le_of_ble_eq_true rfl, Nat.le_of_ble_eq_true rfl⟩ (Nat.le_of_ble_eq_true rfl) ⟨Nat.le_refl _, Nat.le_refl _⟩ (fun b => b) ?_
  obtain ⟨r55, hc56, h⟩ := ob h
  refine r_callV1 (pc := 117) (av := [vI (I a47 (Int32.toNatClampNeg r48)), vI (4 : Int32), vI r53]) (S := []) dX12_plain_117 (kX12_against hc56) g46 rfl mkX12_369 mwX12_against rfl ⟨Nat.le_of_ble_eq_true rfl, Nat.le_of_ble_eq_true rfl⟩ (Nat.le_of_ble_eq_true rfl) ⟨Nat.le_refl _, Nat.le_refl _⟩ (fun b => b) ?_
  refine r_istore_n (pc := 120) (L' := [(3, vI r55), (2, vI (I a47 (Int32.toNatClampNeg r48))), (0, vR (some t)), (1, vI x1)]) dX12_plain_120 rfl (by decide) rfl ?_
  refine r_iload_n (pc := 121) dX12_plain_121 rfl 0 rfl ?_
  refine r_if_eq (pc := 122) (tgt := 127) dX12_plain_122 rfl (fun c => ?_) (fun c => ?_)
  · have h := it h c
    refine r_iload_n (pc := 127) dX12_plain_127 rfl 3 rfl ?_
    refine r_iconst (pc := 128) dX12_plain_128 kc_iconst_3 ?_
    refine r_icmp_ne (pc := 129) (tgt := 155) dX12_plain_129 rfl (fun c => ?_) (fun c => ?_)
    · have h := ie h c
      refine r_aload_n (pc := 155) dX12_plain_155 rfl 2 rfl ?_
      refine r_aload_n (pc := 156) dX12_plain_156 rfl 2 rfl ?_
      obtain ⟨r57, hc58, h⟩ := ob h
      refine r_callV1 (pc := 157) (av := []) (S := [vR (some t)]) dX12_plain_157 (kX12_c hc58) g46 rfl mkX12_540 mwX12_c rfl ⟨Nat.le_of_ble_eq_true rfl, Nat.le_of_ble_eq_true rfl⟩ (Nat.le_of_ble_eq_true rfl) ⟨Nat.le_refl _, Nat.le_refl _⟩ (fun b => b) ?_
      refine r_aload_n (pc := 160) dX12_plain_160 rfl 2 rfl ?_
      obtain ⟨a59, ha59, h⟩ := ob h
      refine r_getS (pc := 161) dX12_plain_161 fgX12_26 rfl g46 ha59 ?_
      refine r_aload_n (pc := 164) dX12_plain_164 rfl 2 rfl ?_
      obtain ⟨a60, ha60, h⟩ := ob h
      refine r_getS (pc := 165) dX12_plain_165 fgX12_22 rfl g46 ha60 ?_
      refine r_iload_n (pc := 168) dX12_plain_168 rfl 1 rfl ?_
      obtain ⟨g61, h⟩ := gd h
      obtain ⟨g62, h⟩ := gd h
      refine r_iaload (pc := 169) dX12_plain_169 g61 g62 ?_
      refine r_aload_n (pc := 170) dX12_plain_170 rfl 2 rfl ?_
      obtain ⟨r63, hc64, h⟩ := ob h
      refine r_callV1 (pc := 171) (av := []) (S := [vI (I a60 (Int32.toNatClampNeg (I a47 (Int32.toNatClampNeg r48)))), vR (some a59), vI r57, vR (some t)]) dX12_plain_171 (kX12_b hc64) g46 rfl mkX12_525 mwX12_b rfl ⟨Nat.le_of_ble_eq_true rfl, Nat.le_of_ble_eq_true rfl⟩ (Nat.le_of_ble_eq_true rfl) ⟨Nat.le_refl _, Nat.le_refl _⟩ (fun b => b) ?_
      refine r_iadd (pc := 174) dX12_plain_174 ?_
      obtain ⟨g65, h⟩ := gd h
      obtain ⟨g66, h⟩ := gd h
      refine r_laload (pc := 175) dX12_plain_175 g65 g66 ?_
      obtain ⟨⟨I67, J68⟩, hc69, h⟩ := ob h
      refine r_callV0 (pc := 176) (av := [vI r57, vL (J a59 (Int32.toNatClampNeg ((I a60 (Int32.toNatClampNeg (I a47 (Int32.toNatClampNeg r48)))) + r63)))]) (S := []) dX12_plain_176 (kX12_changeStock hc69) g46 rfl mkX12_537 mwX12_changeStock rfl ⟨Nat.le_of_ble_eq_true rfl, Nat.le_of_ble_eq_true rfl⟩ (Nat.le_of_ble_eq_true rfl) ⟨Nat.le_refl _, Nat.le_refl _⟩ (fun b => b) ?_
      refine r_iconst (pc := 179) dX12_plain_179 kc_iconst_0 ?_
      cases h
      exact r_iret dX12_plain_180
    · have h := it h c
      refine r_aload_n (pc := 132) dX12_plain_132 rfl 2 rfl ?_
      refine r_aload_n (pc := 133) dX12_plain_133 rfl 2 rfl ?_
      obtain ⟨a70, ha70, h⟩ := ob h
      refine r_getS (pc := 134) dX12_plain_134 fgX12_22 rfl g46 ha70 ?_
      refine r_iload_n (pc := 137) dX12_plain_137 rfl 1 rfl ?_
      obtain ⟨g71, h⟩ := gd h
      obtain ⟨g72, h⟩ := gd h
      refine r_iaload (pc := 138) dX12_plain_138 g71 g72 ?_
      refine r_aload_n (pc := 139) dX12_plain_139 rfl 2 rfl ?_
      obtain ⟨r73, hc74, h⟩ := ob h
      refine r_callV1 (pc := 140) (av := []) (S := [vI (I a70 (Int32.toNatClampNeg (I a47 (Int32.toNatClampNeg r48)))), vR (some t)]) dX12_plain_140 (kX12_b hc74) g46 rfl mkX12_525 mwX12_b rfl ⟨Nat.le_of_ble_eq_true rfl, Nat.le_of_ble_eq_true rfl⟩ (Nat.le_of_ble_eq_true rfl) ⟨Nat.le_refl _, Nat.le_refl _⟩ (fun b => b) ?_
      refine r_iadd (pc := 143) dX12_plain_143 ?_
      refine r_aload_n (pc := 144) dX12_plain_144 rfl 2 rfl ?_
      obtain ⟨r75, hc76, h⟩ := ob h
      refine r_callV1 (pc := 145) (av := []) (S := [vI ((I a70 (Int32.toNatClampNeg (I a47 (Int32.toNatClampNeg r48)))) + r73), vR (some t)]) dX12_plain_145 (kX12_c hc76) g46 rfl mkX12_540 mwX12_c rfl ⟨Nat.le_of_ble_eq_true rfl, Nat.le_of_ble_eq_true rfl⟩ (Nat.le_of_ble_eq_true rfl) ⟨Nat.le_refl _, Nat.le_refl _⟩ (fun b => b) ?_
      refine r_i2l (pc := 148) dX12_plain_148 ?_
      obtain ⟨⟨I77, J78⟩, hc79, h⟩ := ob h
      refine r_callV0 (pc := 149) (av := [vI ((I a70 (Int32.toNatClampNeg (I a47 (Int32.toNatClampNeg r48)))) + r73), vL (Int32.toInt64 r75)]) (S := []) dX12_plain_149 (kX12_setCell hc79) g46 rfl mkX12_543 mwX12_setCell rfl ⟨Nat.le_of_ble_eq_true rfl, Nat.le_of_ble_eq_true rfl⟩ (Nat.le_of_ble_eq_true rfl) ⟨Nat.le_refl _, Nat.le_refl _⟩ (fun b => b) ?_
      refine r_goto (pc := 152) (tgt := 179) dX12_plain_152 rfl ?_
      refine r_iconst (pc := 179) dX12_plain_179 kc_iconst_0 ?_
      cases h
      exact r_iret dX12_plain_180
  · have h := ie h c
    refine r_iload_n (pc := 125) dX12_plain_125 rfl 0 rfl ?_
    cases h
    exact r_iret dX12_plain_126
def fX12_plain (σ : Shp) (I : Nat → Nat → Int32) (J : Nat → Nat → Int64) (R : Nat → Nat → Option Nat) (t : Nat) (x1 : Int32) : Option ((Nat → Nat → Int32) × (Nat → Nat → Int64) × (Int32)) :=
  if x1 = (1 : Int32) then
    if kdx σ t = 13 then
    (fX12_a σ I R t).bind fun r97 =>
    ((R t 38) : Option Nat).bind fun a99 =>
    (fX12_a σ I R t).bind fun r100 =>
    if kdx σ a99 = 21 then
    if ¬ (r100 < 0 ∨ lnx σ a99 ≤ Int32.toNatClampNeg r100) then
    (fX12_b σ I R t).bind fun r104 =>
    (fX12_changeStock σ I J R t r97 ((J a99 (Int32.toNatClampNeg r100)) + (Int32.toInt64 r104))).bind fun (I106, J107) =>
    some (I106, J107, (0 : Int32))
    else none
    else none
    else none
  else
  if x1 = (2 : Int32) then
    if kdx σ t = 13 then
    (fX12_b σ I R t).bind fun r81 =>
    if r81 = 0 then
      some (I, J, (6 : Int32))
    else
      (fX12_a σ I R t).bind fun r83 =>
      ((R t 38) : Option Nat).bind fun a85 =>
      (fX12_a σ I R t).bind fun r86 =>
      if kdx σ a85 = 21 then
      if ¬ (r86 < 0 ∨ lnx σ a85 ≤ Int32.toNatClampNeg r86) then
      (fX12_b σ I R t).bind fun r90 =>
      if ¬ (Int32.toInt64 r90) = 0 then
      (fX12_changeStock σ I J R t r83 ((J a85 (Int32.toNatClampNeg r86)) / (Int32.toInt64 r90))).bind fun (I93, J94) =>
      some (I93, J94, (0 : Int32))
      else none
      else none
      else none
    else none
  else
  if x1 = (3 : Int32) then
    fX12_plain_b100 σ R t I J x1
  else
  if x1 = (4 : Int32) then
    fX12_plain_b100 σ R t I J x1
  else
  if x1 = (5 : Int32) then
    if kdx σ t = 13 then
    ((R t 3) : Option Nat).bind fun a30 =>
    (fX12_a σ I R t).bind fun r31 =>
    if kdx σ a30 = 20 then
    if ¬ (r31 < 0 ∨ lnx σ a30 ≤ Int32.toNatClampNeg r31) then
    let v35 := (I a30 (Int32.toNatClampNeg r31))
    (fX12_againstCard σ I R t v35).bind fun r36 =>
    if r36 = 0 then
      ((R t 6) : Option Nat).bind fun a38 =>
      if kdx σ a38 = 20 then
      if ¬ (v35 < 0 ∨ lnx σ a38 ≤ Int32.toNatClampNeg v35) then
      (fX12_b σ I R t).bind fun r41 =>
      (fX12_setCell σ I J R t ((I a38 (Int32.toNatClampNeg v35)) + (4 : Int32)) (Int32.toInt64 r41)).bind fun (I43, J44) =>
      some (I43, J44, r36)
      else none
      else none
    else
      some (I, J, r36)
    else none
    else none
    else none
  else
  if x1 = (6 : Int32) then
    if kdx σ t = 13 then
    ((R t 3) : Option Nat).bind fun a14 =>
    (fX12_a σ I R t).bind fun r15 =>
    if kdx σ a14 = 20 then
    if ¬ (r15 < 0 ∨ lnx σ a14 ≤ Int32.toNatClampNeg r15) then
    (fX12_b σ I R t).bind fun r19 =>
    (fX12_askOf σ I R t (I a14 (Int32.toNatClampNeg r15)) r19).bind fun (I21, r22) =>
    if r22 = 0 then
      (fX12_c σ I21 R t).bind fun r24 =>
      (fX12_changeStock σ I21 J R t r24 (Int32.toInt64 (I21 t 29))).bind fun (I26, J27) =>
      some (I26, J27, r22)
    else
      some (I21, J, r22)
    else none
    else none
    else none
  else
  if kdx σ t = 13 then
  ((R t 40) : Option Nat).bind fun a8 =>
  (fX12_a σ I R t).bind fun r9 =>
  if kdx σ a8 = 20 then
  if ¬ (r9 < 0 ∨ lnx σ a8 ≤ Int32.toNatClampNeg r9) then
  if (I a8 (Int32.toNatClampNeg r9)) = 0 then
    some (I, J, (7 : Int32))
  else
    some (I, J, (0 : Int32))
  else none
  else none
  else none
theorem kX12_plain {G : Gx} {l : Launch} {σ : Shp} {I : Nat → Nat → Int32} {J : Nat → Nat → Int64} {D : Nat → Nat → UInt64} {R : Nat → Nat → Option Nat} {t : Nat} {x1 : Int32} {I9 : Nat → Nat → Int32} {J9 : Nat → Nat → Int64} {r9 : Int32} (h : fX12_plain σ I J R t x1 = some (I9, J9, r9)) : Con G l yX12_plain cX12_plain 7 (some .int) 6 136 [vR (some t), vI x1] (σ, I, J, D, R) (σ, I9, J9, D, R) (some (vI r9)) := by
  unfold fX12_plain at h
  refine Con.mk (by decide +kernel) rfl (Nat.le_of_ble_eq_true rfl) ?_
  show WX12_plain G l σ (σ, I9, J9, D, R) (some (vI r9)) (σ, I, J, D, R) 0 _ []
  refine r_iload_n (pc := 0) dX12_plain_0 rfl 1 rfl ?_
  rcases itc h with ⟨c1, h⟩ | ⟨c1, h⟩
  · refine r_tsIn (x := x1) (pc := 1) (tgt := 40) dX12_plain_1 (by rw [c1]; decide) (by rw [c1]; decide) (by rw [c1]; rfl) rfl ?_
    refine r_aload_n (pc := 40) dX12_plain_40 rfl 0 rfl ?_
    refine r_aload_n (pc := 41) dX12_plain_41 rfl 0 rfl ?_
    obtain ⟨g96, h⟩ := gd h
    obtain ⟨r97, hc98, h⟩ := ob h
    refine r_callV1 (pc := 42) (av := []) (S := [vR (some t)]) dX12_plain_42 (kX12_a hc98) g96 rfl mkX12_518 mwX12_a rfl ⟨Nat.le_of_ble_eq_true rfl, Nat.le_of_ble_eq_true rfl⟩ (Nat.le_of_ble_eq_true rfl) ⟨Nat.le_refl _, Nat.le_refl _⟩ (fun b => b) ?_
    refine r_aload_n (pc := 45) dX12_plain_45 rfl 0 rfl ?_
    obtain ⟨a99, ha99, h⟩ := ob h
    refine r_getS (pc := 46) dX12_plain_46 fgX12_89 rfl g96 ha99 ?_
    refine r_aload_n (pc := 49) dX12_plain_49 rfl 0 rfl ?_
    obtain ⟨r100, hc101, h⟩ := ob h
    refine r_callV1 (pc := 50) (av := []) (S := [vR (some a99), vI r97, vR (some t)]) dX12_plain_50 (kX12_a hc101) g96 rfl mkX12_518 mwX12_a rfl ⟨Nat.le_of_ble_eq_true rfl, Nat.le_of_ble_eq_true rfl⟩ (Nat.le_of_ble_eq_true rfl) ⟨Nat.le_refl _, Nat.le_refl _⟩ (fun b => b) ?_
    obtain ⟨g102, h⟩ := gd h
    obtain ⟨g103, h⟩ := gd h
    refine r_laload (pc := 53) dX12_plain_53 g102 g103 ?_
    refine r_aload_n (pc := 54) dX12_plain_54 rfl 0 rfl ?_
    obtain ⟨r104, hc105, h⟩ := ob h
    refine r_callV1 (pc := 55) (av := []) (S := [vL (J a99 (Int32.toNatClampNeg r100)), vI r97, vR (some t)]) dX12_plain_55 (kX12_b hc105) g96 rfl mkX12_525 mwX12_b rfl ⟨Nat.le_of_ble_eq_true rfl, Nat.le_of_ble_eq_true rfl⟩ (Nat.le_of_ble_eq_true rfl) ⟨Nat.le_refl _, Nat.le_refl _⟩ (fun b => b) ?_
    refine r_i2l (pc := 58) dX12_plain_58 ?_
    refine r_ladd (pc := 59) dX12_plain_59 ?_
    obtain ⟨⟨I106, J107⟩, hc108, h⟩ := ob h
    refine r_callV0 (pc := 60) (av := [vI r97, vL ((J a99 (Int32.toNatClampNeg r100)) + (Int32.toInt64 r104))]) (S := []) dX12_plain_60 (kX12_changeStock hc108) g96 rfl mkX12_537 mwX12_changeStock rfl ⟨Nat.le_of_ble_eq_true rfl, Nat.le_of_ble_eq_true rfl⟩ (Nat.le_of_ble_eq_true rfl) ⟨Nat.le_refl _, Nat.le_refl _⟩ (fun b => b) ?_
    refine r_iconst (pc := 63) dX12_plain_63 kc_iconst_0 ?_
    cases h
    exact r_iret dX12_plain_64
  · rcases itc h with ⟨c2, h⟩ | ⟨c2, h⟩
    · refine r_tsIn (x := x1) (pc := 1) (tgt := 65) dX12_plain_1 (by rw [c2]; decide) (by rw [c2]; decide) (by rw [c2]; rfl) rfl ?_
      refine r_aload_n (pc := 65) dX12_plain_65 rfl 0 rfl ?_
      obtain ⟨g80, h⟩ := gd h
      obtain ⟨r81, hc82, h⟩ := ob h
      refine r_callV1 (pc := 66) (av := []) (S := []) dX12_plain_66 (kX12_b hc82) g80 rfl mkX12_525 mwX12_b rfl ⟨Nat.le_of_ble_eq_true rfl, Nat.le_of_ble_eq_true rfl⟩ (Nat.le_of_ble_eq_true rfl) ⟨Nat.le_refl _, Nat.le_refl _⟩ (fun b => b) ?_
      refine r_ifne (pc := 69) (tgt := 75) dX12_plain_69 rfl (fun c => ?_) (fun c => ?_)
      · have h := ie h c
        refine r_aload_n (pc := 75) dX12_plain_75 rfl 0 rfl ?_
        refine r_aload_n (pc := 76) dX12_plain_76 rfl 0 rfl ?_
        obtain ⟨r83, hc84, h⟩ := ob h
        refine r_callV1 (pc := 77) (av := []) (S := [vR (some t)]) dX12_plain_77 (kX12_a hc84) g80 rfl mkX12_518 mwX12_a rfl ⟨Nat.le_of_ble_eq_true rfl, Nat.le_of_ble_eq_true rfl⟩ (Nat.le_of_ble_eq_true rfl) ⟨Nat.le_refl _, Nat.le_refl _⟩ (fun b => b) ?_
        refine r_aload_n (pc := 80) dX12_plain_80 rfl 0 rfl ?_
        obtain ⟨a85, ha85, h⟩ := ob h
        refine r_getS (pc := 81) dX12_plain_81 fgX12_89 rfl g80 ha85 ?_
        refine r_aload_n (pc := 84) dX12_plain_84 rfl 0 rfl ?_
        obtain ⟨r86, hc87, h⟩ := ob h
        refine r_callV1 (pc := 85) (av := []) (S := [vR (some a85), vI r83, vR (some t)]) dX12_plain_85 (kX12_a hc87) g80 rfl mkX12_518 mwX12_a rfl ⟨Nat.le_of_ble_eq_true rfl, Nat.le_of_ble_eq_true rfl⟩ (Nat.le_of_ble_eq_true rfl) ⟨Nat.le_refl _, Nat.le_refl _⟩ (fun b => b) ?_
        obtain ⟨g88, h⟩ := gd h
        obtain ⟨g89, h⟩ := gd h
        refine r_laload (pc := 88) dX12_plain_88 g88 g89 ?_
        refine r_aload_n (pc := 89) dX12_plain_89 rfl 0 rfl ?_
        obtain ⟨r90, hc91, h⟩ := ob h
        refine r_callV1 (pc := 90) (av := []) (S := [vL (J a85 (Int32.toNatClampNeg r86)), vI r83, vR (some t)]) dX12_plain_90 (kX12_b hc91) g80 rfl mkX12_525 mwX12_b rfl ⟨Nat.le_of_ble_eq_true rfl, Nat.le_of_ble_eq_true rfl⟩ (Nat.le_of_ble_eq_true rfl) ⟨Nat.le_refl _, Nat.le_refl _⟩ (fun b => b) ?_
        refine r_i2l (pc := 93) dX12_plain_93 ?_
        obtain ⟨g92, h⟩ := gd h
        refine r_ldiv (pc := 94) dX12_plain_94 g92 ?_
        obtain ⟨⟨I93, J94⟩, hc95, h⟩ := ob h
        refine r_callV0 (pc := 95) (av := [vI r83, vL ((J a85 (Int32.toNatClampNeg r86)) / (Int32.toInt64 r90))]) (S := []) dX12_plain_95 (kX12_changeStock hc95) g80 rfl mkX12_537 mwX12_changeStock rfl ⟨Nat.le_of_ble_eq_true rfl, Nat.le_of_ble_eq_true rfl⟩ (Nat.le_of_ble_eq_true rfl) ⟨Nat.le_refl _, Nat.le_refl _⟩ (fun b => b) ?_
        refine r_iconst (pc := 98) dX12_plain_98 kc_iconst_0 ?_
        cases h
        exact r_iret dX12_plain_99
      · have h := it h c
        refine r_bipush (pc := 72) dX12_plain_72 kc_bipush_6 ?_
        cases h
        exact r_iret dX12_plain_74
    · rcases itc h with ⟨c3, h⟩ | ⟨c3, h⟩
      · refine r_tsIn (x := x1) (pc := 1) (tgt := 100) dX12_plain_1 (by rw [c3]; decide) (by rw [c3]; decide) (by rw [c3]; rfl) rfl ?_
        refine r_sub [0, 1] rfl ?_
        exact wX12_plain_b100 h
      · rcases itc h with ⟨c4, h⟩ | ⟨c4, h⟩
        · refine r_tsIn (x := x1) (pc := 1) (tgt := 100) dX12_plain_1 (by rw [c4]; decide) (by rw [c4]; decide) (by rw [c4]; rfl) rfl ?_
          refine r_sub [0, 1] rfl ?_
          exact wX12_plain_b100 h
        · rcases itc h with ⟨c5, h⟩ | ⟨c5, h⟩
          · refine r_tsIn (x := x1) (pc := 1) (tgt := 181) dX12_plain_1 (by rw [c5]; decide) (by rw [c5]; decide) (by rw [c5]; rfl) rfl ?_
            refine r_aload_n (pc := 181) dX12_plain_181 rfl 0 rfl ?_
            obtain ⟨g29, h⟩ := gd h
            obtain ⟨a30, ha30, h⟩ := ob h
            refine r_getS (pc := 182) dX12_plain_182 fgX12_9 rfl g29 ha30 ?_
            refine r_aload_n (pc := 185) dX12_plain_185 rfl 0 rfl ?_
            obtain ⟨r31, hc32, h⟩ := ob h
            refine r_callV1 (pc := 186) (av := []) (S := [vR (some a30)]) dX12_plain_186 (kX12_a hc32) g29 rfl mkX12_518 mwX12_a rfl ⟨Nat.le_of_ble_eq_true rfl, Nat.le_of_ble_eq_true rfl⟩ (Nat.le_of_ble_eq_true rfl) ⟨Nat.le_refl _, Nat.le_refl _⟩ (fun b => b) ?_
            obtain ⟨g33, h⟩ := gd h
            obtain ⟨g34, h⟩ := gd h
            refine r_iaload (pc := 189) dX12_plain_189 g33 g34 ?_
            refine r_istore (pc := 190) (L' := [(4, vI (I a30 (Int32.toNatClampNeg r31))), (0, vR (some t)), (1, vI x1)]) dX12_plain_190 (by decide) rfl ?_
            refine r_aload_n (pc := 192) dX12_plain_192 rfl 1 rfl ?_
            refine r_iload (pc := 193) dX12_plain_193 0 rfl ?_
            obtain ⟨r36, hc37, h⟩ := ob h
            refine r_callV1 (pc := 195) (av := [vI (I a30 (Int32.toNatClampNeg r31))]) (S := []) dX12_plain_195 (kX12_againstCard hc37) g29 rfl mkX12_472 mwX12_againstCard rfl ⟨Nat.le_of_ble_eq_true rfl, Nat.le_of_ble_eq_true rfl⟩ (Nat.le_of_ble_eq_true rfl) ⟨Nat.le_refl _, Nat.le_refl _⟩ (fun b => b) ?_
            refine r_istore (pc := 198) (L' := [(5, vI r36), (4, vI (I a30 (Int32.toNatClampNeg r31))), (0, vR (some t)), (1, vI x1)]) dX12_plain_198 (by decide) rfl ?_
            refine r_iload (pc := 200) dX12_plain_200 0 rfl ?_
            refine r_ifne (pc := 202) (tgt := 223) dX12_plain_202 rfl (fun c => ?_) (fun c => ?_)
            · have h := ie h c
              refine r_iload (pc := 223) dX12_plain_223 0 rfl ?_
              cases h
              exact r_iret dX12_plain_225
            · have h := it h c
              refine r_aload_n (pc := 205) dX12_plain_205 rfl 2 rfl ?_
              refine r_aload_n (pc := 206) dX12_plain_206 rfl 2 rfl ?_
              obtain ⟨a38, ha38, h⟩ := ob h
              refine r_getS (pc := 207) dX12_plain_207 fgX12_22 rfl g29 ha38 ?_
              refine r_iload (pc := 210) dX12_plain_210 1 rfl ?_
              obtain ⟨g39, h⟩ := gd h
              obtain ⟨g40, h⟩ := gd h
              refine r_iaload (pc := 212) dX12_plain_212 g39 g40 ?_
              refine r_iconst (pc := 213) dX12_plain_213 kc_iconst_4 ?_
              refine r_iadd (pc := 214) dX12_plain_214 ?_
              refine r_aload_n (pc := 215) dX12_plain_215 rfl 2 rfl ?_
              obtain ⟨r41, hc42, h⟩ := ob h
              refine r_callV1 (pc := 216) (av := []) (S := [vI ((I a38 (Int32.toNatClampNeg (I a30 (Int32.toNatClampNeg r31)))) + (4 : Int32)), vR (some t)]) dX12_plain_216 (kX12_b hc42) g29 rfl mkX12_525 mwX12_b rfl ⟨Nat.le_of_ble_eq_true rfl, Nat.le_of_ble_eq_true rfl⟩ (Nat.le_of_ble_eq_true rfl) ⟨Nat.le_refl _, Nat.le_refl _⟩ (fun b => b) ?_
              refine r_i2l (pc := 219) dX12_plain_219 ?_
              obtain ⟨⟨I43, J44⟩, hc45, h⟩ := ob h
              refine r_callV0 (pc := 220) (av := [vI ((I a38 (Int32.toNatClampNeg (I a30 (Int32.toNatClampNeg r31)))) + (4 : Int32)), vL (Int32.toInt64 r41)]) (S := []) dX12_plain_220 (kX12_setCell hc45) g29 rfl mkX12_543 mwX12_setCell rfl ⟨Nat.le_of_ble_eq_true rfl, Nat.le_of_ble_eq_true rfl⟩ (Nat.le_of_ble_eq_true rfl) ⟨Nat.le_refl _, Nat.le_refl _⟩ (fun b => b) ?_
              refine r_iload (pc := 223) dX12_plain_223 0 rfl ?_
              cases h
              exact r_iret dX12_plain_225
          · rcases itc h with ⟨c6, h⟩ | ⟨c6, h⟩
            · refine r_tsIn (x := x1) (pc := 1) (tgt := 226) dX12_plain_1 (by rw [c6]; decide) (by rw [c6]; decide) (by rw [c6]; rfl) rfl ?_
              refine r_aload_n (pc := 226) dX12_plain_226 rfl 0 rfl ?_
              refine r_aload_n (pc := 227) dX12_plain_227 rfl 0 rfl ?_
              obtain ⟨g13, h⟩ := gd h
              obtain ⟨a14, ha14, h⟩ := ob h
              refine r_getS (pc := 228) dX12_plain_228 fgX12_9 rfl g13 ha14 ?_
              refine r_aload_n (pc := 231) dX12_plain_231 rfl 0 rfl ?_
              obtain ⟨r15, hc16, h⟩ := ob h
              refine r_callV1 (pc := 232) (av := []) (S := [vR (some a14), vR (some t)]) dX12_plain_232 (kX12_a hc16) g13 rfl mkX12_518 mwX12_a rfl ⟨Nat.le_of_ble_eq_true rfl, Nat.le_of_ble_eq_true rfl⟩ (Nat.le_of_ble_eq_true rfl) ⟨Nat.le_refl _, Nat.le_refl _⟩ (fun b => b) ?_
              obtain ⟨g17, h⟩ := gd h
              obtain ⟨g18, h⟩ := gd h
              refine r_iaload (pc := 235) dX12_plain_235 g17 g18 ?_
              refine r_aload_n (pc := 236) dX12_plain_236 rfl 0 rfl ?_
              obtain ⟨r19, hc20, h⟩ := ob h
              refine r_callV1 (pc := 237) (av := []) (S := [vI (I a14 (Int32.toNatClampNeg r15)), vR (some t)]) dX12_plain_237 (kX12_b hc20) g13 rfl mkX12_525 mwX12_b rfl ⟨Nat.le_of_ble_eq_true rfl, Nat.le_of_ble_eq_true rfl⟩ (Nat.le_of_ble_eq_true rfl) ⟨Nat.le_refl _, Nat.le_refl _⟩ (fun b => b) ?_
              obtain ⟨⟨I21, r22⟩, hc23, h⟩ := ob h
              refine r_callV1 (pc := 240) (av := [vI (I a14 (Int32.toNatClampNeg r15)), vI r19]) (S := []) dX12_plain_240 (kX12_askOf hc23) g13 rfl mkX12_463 mwX12_askOf rfl ⟨Nat.le_of_ble_eq_true rfl, Nat.le_of_ble_eq_true rfl⟩ (Nat.le_of_ble_eq_true rfl) ⟨Nat.le_refl _, Nat.le_refl _⟩ (fun b => b) ?_
              refine r_istore (pc := 243) (L' := [(6, vI r22), (0, vR (some t)), (1, vI x1)]) dX12_plain_243 (by decide) rfl ?_
              refine r_iload (pc := 245) dX12_plain_245 0 rfl ?_
              refine r_ifne (pc := 247) (tgt := 263) dX12_plain_247 rfl (fun c => ?_) (fun c => ?_)
              · have h := ie h c
                refine r_iload (pc := 263) dX12_plain_263 0 rfl ?_
                cases h
                exact r_iret dX12_plain_265
              · have h := it h c
                refine r_aload_n (pc := 250) dX12_plain_250 rfl 1 rfl ?_
                refine r_aload_n (pc := 251) dX12_plain_251 rfl 1 rfl ?_
                obtain ⟨r24, hc25, h⟩ := ob h
                refine r_callV1 (pc := 252) (av := []) (S := [vR (some t)]) dX12_plain_252 (kX12_c hc25) g13 rfl mkX12_540 mwX12_c rfl ⟨Nat.le_of_ble_eq_true rfl, Nat.le_of_ble_eq_true rfl⟩ (Nat.le_of_ble_eq_true rfl) ⟨Nat.le_refl _, Nat.le_refl _⟩ (fun b => b) ?_
                refine r_aload_n (pc := 255) dX12_plain_255 rfl 1 rfl ?_
                refine r_getI (pc := 256) dX12_plain_256 fgX12_457 rfl g13 ?_
                refine r_i2l (pc := 259) dX12_plain_259 ?_
                obtain ⟨⟨I26, J27⟩, hc28, h⟩ := ob h
                refine r_callV0 (pc := 260) (av := [vI r24, vL (Int32.toInt64 (I21 t 29))]) (S := []) dX12_plain_260 (kX12_changeStock hc28) g13 rfl mkX12_537 mwX12_changeStock rfl ⟨Nat.le_of_ble_eq_true rfl, Nat.le_of_ble_eq_true rfl⟩ (Nat.le_of_ble_eq_true rfl) ⟨Nat.le_refl _, Nat.le_refl _⟩ (fun b => b) ?_
                refine r_iload (pc := 263) dX12_plain_263 0 rfl ?_
                cases h
                exact r_iret dX12_plain_265
            · refine r_tsOut (x := x1) (pc := 1) (tgt := 266) dX12_plain_1 (by have ec1 := i32n c1 (k := 1) rfl; have ec2 := i32n c2 (k := 2) rfl; have ec3 := i32n c3 (k := 3) rfl; have ec4 := i32n c4 (k := 4) rfl; have ec5 := i32n c5 (k := 5) rfl; have ec6 := i32n c6 (k := 6) rfl; omega) rfl ?_
              refine r_aload_n (pc := 266) dX12_plain_266 rfl 0 rfl ?_
              obtain ⟨g7, h⟩ := gd h
              obtain ⟨a8, ha8, h⟩ := ob h
              refine r_getS (pc := 267) dX12_plain_267 fgX12_95 rfl g7 ha8 ?_
              refine r_aload_n (pc := 270) dX12_plain_270 rfl 0 rfl ?_
              obtain ⟨r9, hc10, h⟩ := ob h
              refine r_callV1 (pc := 271) (av := []) (S := [vR (some a8)]) dX12_plain_271 (kX12_a hc10) g7 rfl mkX12_518 mwX12_a rfl ⟨Nat.le_of_ble_eq_true rfl, Nat.le_of_ble_eq_true rfl⟩ (Nat.le_of_ble_eq_true rfl) ⟨Nat.le_refl _, Nat.le_refl _⟩ (fun b => b) ?_
              obtain ⟨g11, h⟩ := gd h
              obtain ⟨g12, h⟩ := gd h
              refine r_iaload (pc := 274) dX12_plain_274 g11 g12 ?_
              refine r_ifne (pc := 275) (tgt := 283) dX12_plain_275 rfl (fun c => ?_) (fun c => ?_)
              · have h := ie h c
                refine r_iconst (pc := 283) dX12_plain_283 kc_iconst_0 ?_
                cases h
                exact r_iret dX12_plain_284
              · have h := it h c
                refine r_bipush (pc := 278) dX12_plain_278 kc_bipush_7 ?_
                refine r_goto (pc := 280) (tgt := 284) dX12_plain_280 rfl ?_
                cases h
                exact r_iret dX12_plain_284
