abbrev WX4_markAdded (G : Gx) (l : Launch) (σ0 : Shp) (X1 : Stt) (rv : Option SV) : Stt → Nat → List (Nat × SV) → List SV → Prop := Wm G l yX4_markAdded cX4_markAdded 5 (some .int) (fun _ => True) (rmx 0 0 σ0 X1.1) σ0 (Qmx G σ0 X1 rv)
def fX4_markAdded_b57  (σ : Shp) (R : Nat → Nat → Option Nat) (t : Nat) (I : Nat → Nat → Int32) (x1 : Int32) (x2 : Int32) (x3 : Int32) (x4 : Int32) : Option ((Nat → Nat → Int32) × (Int32)) :=
  if x4 < (6 : Int32) then
    if kdx σ t = 5 then
    ((R t 10) : Option Nat).bind fun a7 =>
    if kdx σ a7 = 28 then
    if ¬ (x1 < 0 ∨ lnx σ a7 ≤ Int32.toNatClampNeg x1) then
    ((R a7 (Int32.toNatClampNeg x1)) : Option Nat).bind fun a10 =>
    if kdx σ a10 = 20 then
    if ¬ (x4 < 0 ∨ lnx σ a10 ≤ Int32.toNatClampNeg x4) then
    let I13 := u2 I a10 (Int32.toNatClampNeg x4) x2
    ((R t 11) : Option Nat).bind fun a14 =>
    if kdx σ a14 = 28 then
    if ¬ (x1 < 0 ∨ lnx σ a14 ≤ Int32.toNatClampNeg x1) then
    ((R a14 (Int32.toNatClampNeg x1)) : Option Nat).bind fun a17 =>
    if kdx σ a17 = 20 then
    if ¬ (x4 < 0 ∨ lnx σ a17 ≤ Int32.toNatClampNeg x4) then
    let I20 := u2 I13 a17 (Int32.toNatClampNeg x4) x3
    ((R t 12) : Option Nat).bind fun a21 =>
    if kdx σ a21 = 20 then
    if ¬ (x1 < 0 ∨ lnx σ a21 ≤ Int32.toNatClampNeg x1) then
    let I24 := u2 I20 a21 (Int32.toNatClampNeg x1) (x4 + (1 : Int32))
    some (I24, (x4 + (1 : Int32)))
    else none
    else none
    else none
    else none
    else none
    else none
    else none
    else none
    else none
    else none
    else none
  else
    some (I, (-4 : Int32))
theorem wX4_markAdded_b57 {G : Gx} {l : Launch} {σ : Shp} {I : Nat → Nat → Int32} {J : Nat → Nat → Int64} {D : Nat → Nat → UInt64} {R : Nat → Nat → Option Nat} {t : Nat} {I9 : Nat → Nat → Int32} {r9 : Int32} {x1 : Int32} {x2 : Int32} {x3 : Int32} {x4 : Int32} (h : fX4_markAdded_b57 σ R t I x1 x2 x3 x4 = some (I9, r9)) : WX4_markAdded G l σ (σ, I9, J, D, R) (some (vI r9)) (σ, I, J, D, R) 57 [(0, vR (some t)), (1, vI x1), (2, vI x2), (3, vI x3), (4, vI x4)] [] := by
  unfold fX4_markAdded_b57 at h
  refine r_iload (pc := 57) dX4_markAdded_57 4 rfl ?_
  refine r_bipush (pc := 59) dX4_markAdded_59 kc_bipush_6 ?_
  refine r_icmp_lt (pc := 61) (tgt := 67) dX4_markAdded_61 rfl (fun c => ?_) (fun c => ?_)
  · have h := it h c
    refine r_aload_n (pc := 67) dX4_markAdded_67 rfl 0 rfl ?_
    obtain ⟨g6, h⟩ := gd h
    obtain ⟨a7, ha7, h⟩ := ob h
    refine r_getS (pc := 68) dX4_markAdded_68 fgX4_55 rfl g6 ha7 ?_
    refine r_iload_n (pc := 71) dX4_markAdded_71 rfl 1 rfl ?_
    obtain ⟨g8, h⟩ := gd h
    obtain ⟨g9, h⟩ := gd h
    refine r_aaload (pc := 72) dX4_markAdded_72 g8 (by decide) g9 ?_
    obtain ⟨a10, ha10, h⟩ := ob h
    refine r_ref0 ha10 ?_
    refine r_iload (pc := 73) dX4_markAdded_73 4 rfl ?_
    refine r_iload_n (pc := 75) dX4_markAdded_75 rfl 2 rfl ?_
    obtain ⟨g11, h⟩ := gd h
    obtain ⟨g12, h⟩ := gd h
    refine r_iastore (pc := 76) dX4_markAdded_76 g11 g12 ?_
    refine r_aload_n (pc := 77) dX4_markAdded_77 rfl 0 rfl ?_
    obtain ⟨a14, ha14, h⟩ := ob h
    refine r_getS (pc := 78) dX4_markAdded_78 fgX4_58 rfl g6 ha14 ?_
    refine r_iload_n (pc := 81) dX4_markAdded_81 rfl 1 rfl ?_
    obtain ⟨g15, h⟩ := gd h
    obtain ⟨g16, h⟩ := gd h
    refine r_aaload (pc := 82) dX4_markAdded_82 g15 (by decide) g16 ?_
    obtain ⟨a17, ha17, h⟩ := ob h
    refine r_ref0 ha17 ?_
    refine r_iload (pc := 83) dX4_markAdded_83 4 rfl ?_
    refine r_iload_n (pc := 85) dX4_markAdded_85 rfl 3 rfl ?_
    obtain ⟨g18, h⟩ := gd h
    obtain ⟨g19, h⟩ := gd h
    refine r_iastore (pc := 86) dX4_markAdded_86 g18 g19 ?_
    refine r_aload_n (pc := 87) dX4_markAdded_87 rfl 0 rfl ?_
    obtain ⟨a21, ha21, h⟩ := ob h
    refine r_getS (pc := 88) dX4_markAdded_88 fgX4_61 rfl g6 ha21 ?_
    refine r_iload_n (pc := 91) dX4_markAdded_91 rfl 1 rfl ?_
    refine r_iload (pc := 92) dX4_markAdded_92 4 rfl ?_
    refine r_iconst (pc := 94) dX4_markAdded_94 kc_iconst_1 ?_
    refine r_iadd (pc := 95) dX4_markAdded_95 ?_
    obtain ⟨g22, h⟩ := gd h
    obtain ⟨g23, h⟩ := gd h
    refine r_iastore (pc := 96) dX4_markAdded_96 g22 g23 ?_
    refine r_iload (pc := 97) dX4_markAdded_97 4 rfl ?_
    refine r_iconst (pc := 99) dX4_markAdded_99 kc_iconst_1 ?_
    refine r_iadd (pc := 100) dX4_markAdded_100 ?_
    cases h
    exact r_iret dX4_markAdded_101
  · have h := ie h c
    refine r_bipush (pc := 64) dX4_markAdded_64 kc_bipush_m4 ?_
    cases h
    exact r_iret dX4_markAdded_66
def fX4_markAdded (σ : Shp) (I : Nat → Nat → Int32) (R : Nat → Nat → Option Nat) (t : Nat) (x1 : Int32) (x2 : Int32) (x3 : Int32) : Option ((Nat → Nat → Int32) × (Int32)) :=
  if kdx σ t = 5 then
  ((R t 12) : Option Nat).bind fun a2 =>
  if kdx σ a2 = 20 then
  if ¬ (x1 < 0 ∨ lnx σ a2 ≤ Int32.toNatClampNeg x1) then
  let v5 := (I a2 (Int32.toNatClampNeg x1))
  if x2 < 0 then
    some (I, (-2 : Int32))
  else
    if (1440 : Int32) ≤ x2 then
      some (I, (-2 : Int32))
    else
      if x3 < (-50000 : Int32) then
        some (I, (-2 : Int32))
      else
        if x3 ≤ (60000 : Int32) then
          if v5 ≤ 0 then
            fX4_markAdded_b57 σ R t I x1 x2 x3 v5
          else
            ((R t 10) : Option Nat).bind fun a25 =>
            if kdx σ a25 = 28 then
            if ¬ (x1 < 0 ∨ lnx σ a25 ≤ Int32.toNatClampNeg x1) then
            ((R a25 (Int32.toNatClampNeg x1)) : Option Nat).bind fun a28 =>
            if kdx σ a28 = 20 then
            if ¬ ((v5 - (1 : Int32)) < 0 ∨ lnx σ a28 ≤ Int32.toNatClampNeg (v5 - (1 : Int32))) then
            if (I a28 (Int32.toNatClampNeg (v5 - (1 : Int32)))) < x2 then
              fX4_markAdded_b57 σ R t I x1 x2 x3 v5
            else
              some (I, (-2 : Int32))
            else none
            else none
            else none
            else none
        else
          some (I, (-2 : Int32))
  else none
  else none
  else none
theorem kX4_markAdded {G : Gx} {l : Launch} {σ : Shp} {I : Nat → Nat → Int32} {J : Nat → Nat → Int64} {D : Nat → Nat → UInt64} {R : Nat → Nat → Option Nat} {t : Nat} {x1 : Int32} {x2 : Int32} {x3 : Int32} {I9 : Nat → Nat → Int32} {r9 : Int32} (h : fX4_markAdded σ I R t x1 x2 x3 = some (I9, r9)) : Con G l yX4_markAdded cX4_markAdded 5 (some .int) 0 0 [vR (some t), vI x1, vI x2, vI x3] (σ, I, J, D, R) (σ, I9, J, D, R) (some (vI r9)) := by
  unfold fX4_markAdded at h
  refine Con.mk (by decide +kernel) rfl (Nat.le_of_ble_eq_true rfl) ?_
  show WX4_markAdded G l σ (σ, I9, J, D, R) (some (vI r9)) (σ, I, J, D, R) 0 _ []
  refine r_aload_n (pc := 0) dX4_markAdded_0 rfl 0 rfl ?_
  obtain ⟨g1, h⟩ := gd h
  obtain ⟨a2, ha2, h⟩ := ob h
  refine r_getS (pc := 1) dX4_markAdded_1 fgX4_61 rfl g1 ha2 ?_
  refine r_iload_n (pc := 4) dX4_markAdded_4 rfl 1 rfl ?_
  obtain ⟨g3, h⟩ := gd h
  obtain ⟨g4, h⟩ := gd h
  refine r_iaload (pc := 5) dX4_markAdded_5 g3 g4 ?_
  refine r_istore (pc := 6) (L' := [(4, vI (I a2 (Int32.toNatClampNeg x1))), (0, vR (some t)), (1, vI x1), (2, vI x2), (3, vI x3)]) dX4_markAdded_6 (by decide) rfl ?_
  refine r_iload_n (pc := 8) dX4_markAdded_8 rfl 3 rfl ?_
  refine r_if_lt (pc := 9) (tgt := 31) dX4_markAdded_9 rfl (fun c => ?_) (fun c => ?_)
  · have h := it h c
    refine r_bipush (pc := 31) dX4_markAdded_31 kc_bipush_m2 ?_
    cases h
    exact r_iret dX4_markAdded_33
  · have h := ie h c
    refine r_iload_n (pc := 12) dX4_markAdded_12 rfl 3 rfl ?_
    refine r_sipush (pc := 13) dX4_markAdded_13 kc_sipush_1440 ?_
    refine r_icmp_ge (pc := 16) (tgt := 31) dX4_markAdded_16 rfl (fun c => ?_) (fun c => ?_)
    · have h := it h c
      refine r_bipush (pc := 31) dX4_markAdded_31 kc_bipush_m2 ?_
      cases h
      exact r_iret dX4_markAdded_33
    · have h := ie h c
      refine r_iload_n (pc := 19) dX4_markAdded_19 rfl 4 rfl ?_
      refine r_ldc (pc := 20) dX4_markAdded_20 ciX4_99 ?_
      refine r_icmp_lt (pc := 22) (tgt := 31) dX4_markAdded_22 rfl (fun c => ?_) (fun c => ?_)
      · have h := it h c
        refine r_bipush (pc := 31) dX4_markAdded_31 kc_bipush_m2 ?_
        cases h
        exact r_iret dX4_markAdded_33
      · have h := ie h c
        refine r_iload_n (pc := 25) dX4_markAdded_25 rfl 4 rfl ?_
        refine r_ldc (pc := 26) dX4_markAdded_26 ciX4_100 ?_
        refine r_icmp_le (pc := 28) (tgt := 34) dX4_markAdded_28 rfl (fun c => ?_) (fun c => ?_)
        · have h := it h c
          refine r_iload (pc := 34) dX4_markAdded_34 0 rfl ?_
          refine r_if_le (pc := 36) (tgt := 57) dX4_markAdded_36 rfl (fun c => ?_) (fun c => ?_)
          · have h := it h c
            refine r_sub [1, 2, 3, 4, 0] rfl ?_
            exact wX4_markAdded_b57 h
          · have h := ie h c
            refine r_iload_n (pc := 39) dX4_markAdded_39 rfl 3 rfl ?_
            refine r_aload_n (pc := 40) dX4_markAdded_40 rfl 1 rfl ?_
            obtain ⟨a25, ha25, h⟩ := ob h
            refine r_getS (pc := 41) dX4_markAdded_41 fgX4_55 rfl g1 ha25 ?_
            refine r_iload_n (pc := 44) dX4_markAdded_44 rfl 2 rfl ?_
            obtain ⟨g26, h⟩ := gd h
            obtain ⟨g27, h⟩ := gd h
            refine r_aaload (pc := 45) dX4_markAdded_45 g26 (by decide) g27 ?_
            obtain ⟨a28, ha28, h⟩ := ob h
            refine r_ref0 ha28 ?_
            refine r_iload (pc := 46) dX4_markAdded_46 0 rfl ?_
            refine r_iconst (pc := 48) dX4_markAdded_48 kc_iconst_1 ?_
            refine r_isub (pc := 49) dX4_markAdded_49 ?_
            obtain ⟨g29, h⟩ := gd h
            obtain ⟨g30, h⟩ := gd h
            refine r_iaload (pc := 50) dX4_markAdded_50 g29 g30 ?_
            refine r_icmp_gt (pc := 51) (tgt := 57) dX4_markAdded_51 rfl (fun c => ?_) (fun c => ?_)
            · have h := it h c
              refine r_sub [1, 2, 3, 4, 0] rfl ?_
              exact wX4_markAdded_b57 h
            · have h := ie h c
              refine r_bipush (pc := 54) dX4_markAdded_54 kc_bipush_m2 ?_
              cases h
              exact r_iret dX4_markAdded_56
        · have h := ie h c
          refine r_bipush (pc := 31) dX4_markAdded_31 kc_bipush_m2 ?_
          cases h
          exact r_iret dX4_markAdded_33
abbrev WX4_marksGone (G : Gx) (l : Launch) (σ0 : Shp) (X1 : Stt) (rv : Option SV) : Stt → Nat → List (Nat × SV) → List SV → Prop := Wm G l yX4_marksGone cX4_marksGone 3 (some .int) (fun _ => True) (rmx 0 0 σ0 X1.1) σ0 (Qmx G σ0 X1 rv)
def fX4_marksGone (σ : Shp) (I : Nat → Nat → Int32) (R : Nat → Nat → Option Nat) (t : Nat) (x1 : Int32) : Option ((Nat → Nat → Int32) × (Int32)) :=
  if kdx σ t = 5 then
  ((R t 12) : Option Nat).bind fun a2 =>
  if kdx σ a2 = 20 then
  if ¬ (x1 < 0 ∨ lnx σ a2 ≤ Int32.toNatClampNeg x1) then
  let v5 := (I a2 (Int32.toNatClampNeg x1))
  let I6 := u2 I a2 (Int32.toNatClampNeg x1) (0 : Int32)
  some (I6, v5)
  else none
  else none
  else none
theorem kX4_marksGone {G : Gx} {l : Launch} {σ : Shp} {I : Nat → Nat → Int32} {J : Nat → Nat → Int64} {D : Nat → Nat → UInt64} {R : Nat → Nat → Option Nat} {t : Nat} {x1 : Int32} {I9 : Nat → Nat → Int32} {r9 : Int32} (h : fX4_marksGone σ I R t x1 = some (I9, r9)) : Con G l yX4_marksGone cX4_marksGone 3 (some .int) 0 0 [vR (some t), vI x1] (σ, I, J, D, R) (σ, I9, J, D, R) (some (vI r9)) := by
  unfold fX4_marksGone at h
  refine Con.mk (by decide +kernel) rfl (Nat.le_of_ble_eq_true rfl) ?_
  show WX4_marksGone G l σ (σ, I9, J, D, R) (some (vI r9)) (σ, I, J, D, R) 0 _ []
  refine r_aload_n (pc := 0) dX4_marksGone_0 rfl 0 rfl ?_
  obtain ⟨g1, h⟩ := gd h
  obtain ⟨a2, ha2, h⟩ := ob h
  refine r_getS (pc := 1) dX4_marksGone_1 fgX4_61 rfl g1 ha2 ?_
  refine r_iload_n (pc := 4) dX4_marksGone_4 rfl 1 rfl ?_
  obtain ⟨g3, h⟩ := gd h
  obtain ⟨g4, h⟩ := gd h
  refine r_iaload (pc := 5) dX4_marksGone_5 g3 g4 ?_
  refine r_istore_n (pc := 6) (L' := [(2, vI (I a2 (Int32.toNatClampNeg x1))), (0, vR (some t)), (1, vI x1)]) dX4_marksGone_6 rfl (by decide) rfl ?_
  refine r_aload_n (pc := 7) dX4_marksGone_7 rfl 1 rfl ?_
  refine r_getS (pc := 8) dX4_marksGone_8 fgX4_61 rfl g1 ha2 ?_
  refine r_iload_n (pc := 11) dX4_marksGone_11 rfl 2 rfl ?_
  refine r_iconst (pc := 12) dX4_marksGone_12 kc_iconst_0 ?_
  refine r_iastore (pc := 13) dX4_marksGone_13 g3 g4 ?_
  refine r_iload_n (pc := 14) dX4_marksGone_14 rfl 0 rfl ?_
  cases h
  exact r_iret dX4_marksGone_15
abbrev WX5_init (G : Gx) (l : Launch) (σ0 : Shp) (X1 : Stt) (rv : Option SV) : Stt → Nat → List (Nat × SV) → List SV → Prop := Wm G l yX5_init cX5_init 1 none (fun _ => True) (rmx 1 20 σ0 X1.1) σ0 (Qmx G σ0 X1 rv)
def fX5_init_b69  (σ : Shp) (R : Nat → Nat → Option Nat) (s0 : Nat) (s1 : Nat) : Option ((Shp) × (Nat → Nat → Option Nat)) :=
  if kdx σ s0 = 6 then
  let R28 := u2 R s0 7 (some s1)
  some (σ, R28)
  else none
theorem mX5_init_b69 {σ : Shp} {R : Nat → Nat → Option Nat} {σ9 : Shp} {R9 : Nat → Nat → Option Nat} {s0 : Nat} {s1 : Nat} (h : fX5_init_b69 σ R s0 s1 = some (σ9, R9)) : Lex σ σ9 := by
  unfold fX5_init_b69 at h
  replace h := (gd h).2
  cases h
  exact ⟨Nat.le_refl _, Nat.le_refl _⟩
theorem wX5_init_b69 {G : Gx} {l : Launch} {σ0 : Shp} {σ : Shp} {I : Nat → Nat → Int32} {J : Nat → Nat → Int64} {D : Nat → Nat → UInt64} {R : Nat → Nat → Option Nat} {σ9 : Shp} {R9 : Nat → Nat → Option Nat} {s0 : Nat} {s1 : Nat} (h : fX5_init_b69 σ R s0 s1 = some (σ9, R9)) : WX5_init G l σ0 (σ9, I, J, D, R9) none (σ, I, J, D, R) 69 [] [vR (some s1), vR (some s0)] := by
  unfold fX5_init_b69 at h
  obtain ⟨g27, h⟩ := gd h
  refine r_putRF (pc := 69) dX5_init_69 fwX5_35 rfl rfl g27 ?_
  cases h
  exact r_vret dX5_init_72
def fX5_init_b62  (t : Nat) (σ : Shp) (R : Nat → Nat → Option Nat) (s0 : Nat) (s1 : Nat) : Option ((Shp) × (Nat → Nat → Option Nat)) :=
  if kdx σ s0 = 6 then
  let R25 := u2 R s0 6 (some s1)
  let σ26 := mkA σ 21 (Int32.toNatClampNeg (4 : Int32))
  fX5_init_b69 σ26 R25 t (nxx σ + 4)
  else none
theorem mX5_init_b62 {σ : Shp} {R : Nat → Nat → Option Nat} {t : Nat} {σ9 : Shp} {R9 : Nat → Nat → Option Nat} {s0 : Nat} {s1 : Nat} (h : fX5_init_b62 t σ R s0 s1 = some (σ9, R9)) : Lex σ σ9 := by
  unfold fX5_init_b62 at h
  replace h := (gd h).2
  exact Lex_mkA (mX5_init_b69 h)
theorem wX5_init_b62 {G : Gx} {l : Launch} {σ0 : Shp} {σ : Shp} {I : Nat → Nat → Int32} {J : Nat → Nat → Int64} {D : Nat → Nat → UInt64} {R : Nat → Nat → Option Nat} {t : Nat} {σ9 : Shp} {R9 : Nat → Nat → Option Nat} {s0 : Nat} {s1 : Nat} (h : fX5_init_b62 t σ R s0 s1 = some (σ9, R9)) : WX5_init G l σ0 (σ9, I, J, D, R9) none (σ, I, J, D, R) 62 [(0, vR (some t))] [vR (some s1), vR (some s0)] := by
  unfold fX5_init_b62 at h
  obtain ⟨g24, h⟩ := gd h
  refine r_putRF (pc := 62) dX5_init_62 fwX5_32 rfl rfl g24 ?_
  refine r_aload_n (pc := 65) dX5_init_65 rfl 0 rfl ?_
  refine r_iconst (pc := 66) dX5_init_66 kc_iconst_4 ?_
  refine r_newa (pc := 67) (t := 21) (ti := 1) (ty := .long) dX5_init_67 rfl (by decide) ac21 (by decide) (by decide) (Nat.sub_le_sub_right (mX5_init_b69 h).1 _) (Nat.sub_le_sub_right (mX5_init_b69 h).2 _) ?_
  refine r_sub [] rfl ?_
  exact wX5_init_b69 h
def fX5_init_b55  (t : Nat) (σ : Shp) (R : Nat → Nat → Option Nat) (s0 : Nat) (s1 : Nat) : Option ((Shp) × (Nat → Nat → Option Nat)) :=
  if kdx σ s0 = 6 then
  let R22 := u2 R s0 5 (some s1)
  let σ23 := mkA σ 21 (Int32.toNatClampNeg (3 : Int32))
  fX5_init_b62 t σ23 R22 t (nxx σ + 4)
  else none
theorem mX5_init_b55 {σ : Shp} {R : Nat → Nat → Option Nat} {t : Nat} {σ9 : Shp} {R9 : Nat → Nat → Option Nat} {s0 : Nat} {s1 : Nat} (h : fX5_init_b55 t σ R s0 s1 = some (σ9, R9)) : Lex σ σ9 := by
  unfold fX5_init_b55 at h
  replace h := (gd h).2
  exact Lex_mkA (mX5_init_b62 h)
theorem wX5_init_b55 {G : Gx} {l : Launch} {σ0 : Shp} {σ : Shp} {I : Nat → Nat → Int32} {J : Nat → Nat → Int64} {D : Nat → Nat → UInt64} {R : Nat → Nat → Option Nat} {t : Nat} {σ9 : Shp} {R9 : Nat → Nat → Option Nat} {s0 : Nat} {s1 : Nat} (h : fX5_init_b55 t σ R s0 s1 = some (σ9, R9)) : WX5_init G l σ0 (σ9, I, J, D, R9) none (σ, I, J, D, R) 55 [(0, vR (some t))] [vR (some s1), vR (some s0)] := by
  unfold fX5_init_b55 at h
  obtain ⟨g21, h⟩ := gd h
  refine r_putRF (pc := 55) dX5_init_55 fwX5_29 rfl rfl g21 ?_
  refine r_aload_n (pc := 58) dX5_init_58 rfl 0 rfl ?_
  refine r_iconst (pc := 59) dX5_init_59 kc_iconst_3 ?_
  refine r_newa (pc := 60) (t := 21) (ti := 1) (ty := .long) dX5_init_60 rfl (by decide) ac21 (by decide) (by decide) (Nat.sub_le_sub_right (mX5_init_b62 h).1 _) (Nat.sub_le_sub_right (mX5_init_b62 h).2 _) ?_
  refine r_sub [0] rfl ?_
  exact wX5_init_b62 h
def fX5_init_b48  (t : Nat) (σ : Shp) (R : Nat → Nat → Option Nat) (s0 : Nat) (s1 : Nat) : Option ((Shp) × (Nat → Nat → Option Nat)) :=
  if kdx σ s0 = 6 then
  let R19 := u2 R s0 4 (some s1)
  let σ20 := mkA σ 21 (Int32.toNatClampNeg (3 : Int32))
  fX5_init_b55 t σ20 R19 t (nxx σ + 4)
  else none
theorem mX5_init_b48 {σ : Shp} {R : Nat → Nat → Option Nat} {t : Nat} {σ9 : Shp} {R9 : Nat → Nat → Option Nat} {s0 : Nat} {s1 : Nat} (h : fX5_init_b48 t σ R s0 s1 = some (σ9, R9)) : Lex σ σ9 := by
  unfold fX5_init_b48 at h
  replace h := (gd h).2
  exact Lex_mkA (mX5_init_b55 h)
theorem wX5_init_b48 {G : Gx} {l : Launch} {σ0 : Shp} {σ : Shp} {I : Nat → Nat → Int32} {J : Nat → Nat → Int64} {D : Nat → Nat → UInt64} {R : Nat → Nat → Option Nat} {t : Nat} {σ9 : Shp} {R9 : Nat → Nat → Option Nat} {s0 : Nat} {s1 : Nat} (h : fX5_init_b48 t σ R s0 s1 = some (σ9, R9)) : WX5_init G l σ0 (σ9, I, J, D, R9) none (σ, I, J, D, R) 48 [(0, vR (some t))] [vR (some s1), vR (some s0)] := by
  unfold fX5_init_b48 at h
  obtain ⟨g18, h⟩ := gd h
  refine r_putRF (pc := 48) dX5_init_48 fwX5_25 rfl rfl g18 ?_
  refine r_aload_n (pc := 51) dX5_init_51 rfl 0 rfl ?_
  refine r_iconst (pc := 52) dX5_init_52 kc_iconst_3 ?_
  refine r_newa (pc := 53) (t := 21) (ti := 1) (ty := .long) dX5_init_53 rfl (by decide) ac21 (by decide) (by decide) (Nat.sub_le_sub_right (mX5_init_b55 h).1 _) (Nat.sub_le_sub_right (mX5_init_b55 h).2 _) ?_
  refine r_sub [0] rfl ?_
  exact wX5_init_b55 h
def fX5_init_b41  (t : Nat) (σ : Shp) (R : Nat → Nat → Option Nat) (s0 : Nat) (s1 : Nat) : Option ((Shp) × (Nat → Nat → Option Nat)) :=
  if kdx σ s0 = 6 then
  let R16 := u2 R s0 3 (some s1)
  let σ17 := mkA σ 21 (Int32.toNatClampNeg (3 : Int32))
  fX5_init_b48 t σ17 R16 t (nxx σ + 4)
  else none
theorem mX5_init_b41 {σ : Shp} {R : Nat → Nat → Option Nat} {t : Nat} {σ9 : Shp} {R9 : Nat → Nat → Option Nat} {s0 : Nat} {s1 : Nat} (h : fX5_init_b41 t σ R s0 s1 = some (σ9, R9)) : Lex σ σ9 := by
  unfold fX5_init_b41 at h
  replace h := (gd h).2
  exact Lex_mkA (mX5_init_b48 h)
theorem wX5_init_b41 {G : Gx} {l : Launch} {σ0 : Shp} {σ : Shp} {I : Nat → Nat → Int32} {J : Nat → Nat → Int64} {D : Nat → Nat → UInt64} {R : Nat → Nat → Option Nat} {t : Nat} {σ9 : Shp} {R9 : Nat → Nat → Option Nat} {s0 : Nat} {s1 : Nat} (h : fX5_init_b41 t σ R s0 s1 = some (σ9, R9)) : WX5_init G l σ0 (σ9, I, J, D, R9) none (σ, I, J, D, R) 41 [(0, vR (some t))] [vR (some s1), vR (some s0)] := by
  unfold fX5_init_b41 at h
  obtain ⟨g15, h⟩ := gd h
  refine r_putRF (pc := 41) dX5_init_41 fwX5_22 rfl rfl g15 ?_
  refine r_aload_n (pc := 44) dX5_init_44 rfl 0 rfl ?_
  refine r_iconst (pc := 45) dX5_init_45 kc_iconst_3 ?_
  refine r_newa (pc := 46) (t := 21) (ti := 1) (ty := .long) dX5_init_46 rfl (by decide) ac21 (by decide) (by decide) (Nat.sub_le_sub_right (mX5_init_b48 h).1 _) (Nat.sub_le_sub_right (mX5_init_b48 h).2 _) ?_
  refine r_sub [0] rfl ?_
  exact wX5_init_b48 h
def fX5_init_b31  (t : Nat) (σ : Shp) (R : Nat → Nat → Option Nat) (s0 : Nat) (s1 : Nat) : Option ((Shp) × (Nat → Nat → Option Nat)) :=
  if kdx σ s0 = 6 then
  let R12 := u2 R s0 2 (some s1)
  let σ13 := mkM σ 28 (Int32.toNatClampNeg (2 : Int32)) (Int32.toNatClampNeg (4 : Int32))
  let R14 := mRr R12 (nxx σ + 4) (Int32.toNatClampNeg (2 : Int32))
  fX5_init_b41 t σ13 R14 t (nxx σ + 4)
  else none
theorem mX5_init_b31 {σ : Shp} {R : Nat → Nat → Option Nat} {t : Nat} {σ9 : Shp} {R9 : Nat → Nat → Option Nat} {s0 : Nat} {s1 : Nat} (h : fX5_init_b31 t σ R s0 s1 = some (σ9, R9)) : Lex σ σ9 := by
  unfold fX5_init_b31 at h
  replace h := (gd h).2
  exact Lex_mkM (mX5_init_b41 h)
theorem wX5_init_b31 {G : Gx} {l : Launch} {σ0 : Shp} {σ : Shp} {I : Nat → Nat → Int32} {J : Nat → Nat → Int64} {D : Nat → Nat → UInt64} {R : Nat → Nat → Option Nat} {t : Nat} {σ9 : Shp} {R9 : Nat → Nat → Option Nat} {s0 : Nat} {s1 : Nat} (h : fX5_init_b31 t σ R s0 s1 = some (σ9, R9)) : WX5_init G l σ0 (σ9, I, J, D, R9) none (σ, I, J, D, R) 31 [(0, vR (some t))] [vR (some s1), vR (some s0)] := by
  unfold fX5_init_b31 at h
  obtain ⟨g11, h⟩ := gd h
  refine r_putRF (pc := 31) dX5_init_31 fwX5_19 rfl rfl g11 ?_
  refine r_aload_n (pc := 34) dX5_init_34 rfl 0 rfl ?_
  refine r_iconst (pc := 35) dX5_init_35 kc_iconst_2 ?_
  refine r_iconst (pc := 36) dX5_init_36 kc_iconst_4 ?_
  refine r_multi (pc := 37) (t := 28) (ty := .int) dX5_init_37 (by decide) cnX5_14 ac20 (by decide) (by decide) (by decide) (by decide) (Nat.sub_le_sub_right (mX5_init_b41 h).1 _) (Nat.sub_le_sub_right (mX5_init_b41 h).2 _) ?_
  refine r_sub [0] rfl ?_
  exact wX5_init_b41 h
def fX5_init_b21  (t : Nat) (σ : Shp) (R : Nat → Nat → Option Nat) (s0 : Nat) (s1 : Nat) : Option ((Shp) × (Nat → Nat → Option Nat)) :=
  if kdx σ s0 = 6 then
  let R8 := u2 R s0 1 (some s1)
  let σ9 := mkM σ 28 (Int32.toNatClampNeg (2 : Int32)) (Int32.toNatClampNeg (4 : Int32))
  let R10 := mRr R8 (nxx σ + 4) (Int32.toNatClampNeg (2 : Int32))
  fX5_init_b31 t σ9 R10 t (nxx σ + 4)
  else none
theorem mX5_init_b21 {σ : Shp} {R : Nat → Nat → Option Nat} {t : Nat} {σ9 : Shp} {R9 : Nat → Nat → Option Nat} {s0 : Nat} {s1 : Nat} (h : fX5_init_b21 t σ R s0 s1 = some (σ9, R9)) : Lex σ σ9 := by
  unfold fX5_init_b21 at h
  replace h := (gd h).2
  exact Lex_mkM (mX5_init_b31 h)
theorem wX5_init_b21 {G : Gx} {l : Launch} {σ0 : Shp} {σ : Shp} {I : Nat → Nat → Int32} {J : Nat → Nat → Int64} {D : Nat → Nat → UInt64} {R : Nat → Nat → Option Nat} {t : Nat} {σ9 : Shp} {R9 : Nat → Nat → Option Nat} {s0 : Nat} {s1 : Nat} (h : fX5_init_b21 t σ R s0 s1 = some (σ9, R9)) : WX5_init G l σ0 (σ9, I, J, D, R9) none (σ, I, J, D, R) 21 [(0, vR (some t))] [vR (some s1), vR (some s0)] := by
  unfold fX5_init_b21 at h
  obtain ⟨g7, h⟩ := gd h
  refine r_putRF (pc := 21) dX5_init_21 fwX5_16 rfl rfl g7 ?_
  refine r_aload_n (pc := 24) dX5_init_24 rfl 0 rfl ?_
  refine r_iconst (pc := 25) dX5_init_25 kc_iconst_2 ?_
  refine r_iconst (pc := 26) dX5_init_26 kc_iconst_4 ?_
  refine r_multi (pc := 27) (t := 28) (ty := .int) dX5_init_27 (by decide) cnX5_14 ac20 (by decide) (by decide) (by decide) (by decide) (Nat.sub_le_sub_right (mX5_init_b31 h).1 _) (Nat.sub_le_sub_right (mX5_init_b31 h).2 _) ?_
  refine r_sub [0] rfl ?_
  exact wX5_init_b31 h
def fX5_init_b11  (t : Nat) (σ : Shp) (R : Nat → Nat → Option Nat) (s0 : Nat) (s1 : Nat) : Option ((Shp) × (Nat → Nat → Option Nat)) :=
  if kdx σ s0 = 6 then
  let R4 := u2 R s0 0 (some s1)
  let σ5 := mkM σ 28 (Int32.toNatClampNeg (2 : Int32)) (Int32.toNatClampNeg (4 : Int32))
  let R6 := mRr R4 (nxx σ + 4) (Int32.toNatClampNeg (2 : Int32))
  fX5_init_b21 t σ5 R6 t (nxx σ + 4)
  else none
theorem mX5_init_b11 {σ : Shp} {R : Nat → Nat → Option Nat} {t : Nat} {σ9 : Shp} {R9 : Nat → Nat → Option Nat} {s0 : Nat} {s1 : Nat} (h : fX5_init_b11 t σ R s0 s1 = some (σ9, R9)) : Lex σ σ9 := by
  unfold fX5_init_b11 at h
  replace h := (gd h).2
  exact Lex_mkM (mX5_init_b21 h)
theorem wX5_init_b11 {G : Gx} {l : Launch} {σ0 : Shp} {σ : Shp} {I : Nat → Nat → Int32} {J : Nat → Nat → Int64} {D : Nat → Nat → UInt64} {R : Nat → Nat → Option Nat} {t : Nat} {σ9 : Shp} {R9 : Nat → Nat → Option Nat} {s0 : Nat} {s1 : Nat} (h : fX5_init_b11 t σ R s0 s1 = some (σ9, R9)) : WX5_init G l σ0 (σ9, I, J, D, R9) none (σ, I, J, D, R) 11 [(0, vR (some t))] [vR (some s1), vR (some s0)] := by
  unfold fX5_init_b11 at h
  obtain ⟨g3, h⟩ := gd h
  refine r_putRF (pc := 11) dX5_init_11 fwX5_11 rfl rfl g3 ?_
  refine r_aload_n (pc := 14) dX5_init_14 rfl 0 rfl ?_
  refine r_iconst (pc := 15) dX5_init_15 kc_iconst_2 ?_
  refine r_iconst (pc := 16) dX5_init_16 kc_iconst_4 ?_
  refine r_multi (pc := 17) (t := 28) (ty := .int) dX5_init_17 (by decide) cnX5_14 ac20 (by decide) (by decide) (by decide) (by decide) (Nat.sub_le_sub_right (mX5_init_b21 h).1 _) (Nat.sub_le_sub_right (mX5_init_b21 h).2 _) ?_
  refine r_sub [0] rfl ?_
  exact wX5_init_b21 h
def fX5_init (σ : Shp) (R : Nat → Nat → Option Nat) (t : Nat)  : Option ((Shp) × (Nat → Nat → Option Nat)) :=
  let σ1 := mkM σ 29 (Int32.toNatClampNeg (2 : Int32)) (Int32.toNatClampNeg (4 : Int32))
  let R2 := mRr R (nxx σ + 4) (Int32.toNatClampNeg (2 : Int32))
  fX5_init_b11 t σ1 R2 t (nxx σ + 4)
theorem mX5_init {σ : Shp} {R : Nat → Nat → Option Nat} {t : Nat}  {σ9 : Shp} {R9 : Nat → Nat → Option Nat} (h : fX5_init σ R t = some (σ9, R9)) : Lex σ σ9 := by
  unfold fX5_init at h
  exact Lex_mkM (mX5_init_b11 h)
theorem kX5_init {G : Gx} {l : Launch} {σ : Shp} {I : Nat → Nat → Int32} {J : Nat → Nat → Int64} {D : Nat → Nat → UInt64} {R : Nat → Nat → Option Nat} {t : Nat}  {σ9 : Shp} {R9 : Nat → Nat → Option Nat} (h : fX5_init σ R t = some (σ9, R9)) : Con G l yX5_init cX5_init 1 none 1 20 [vR (some t)] (σ, I, J, D, R) (σ9, I, J, D, R9) none := by
  unfold fX5_init at h
  refine Con.mk (by decide +kernel) rfl (Nat.le_of_ble_eq_true rfl) ?_
  show WX5_init G l σ (σ9, I, J, D, R9) none (σ, I, J, D, R) 0 _ []
  refine r_aload_n (pc := 0) dX5_init_0 rfl 0 rfl ?_
  refine r_objInit (pc := 1) (S := []) dX5_init_1 obX5_1 obI obC (Nat.le_of_ble_eq_true rfl) (Nat.le_of_ble_eq_true rfl) (Nat.le_of_ble_eq_true rfl) ?_
  refine r_aload_n (pc := 4) dX5_init_4 rfl 0 rfl ?_
  refine r_iconst (pc := 5) dX5_init_5 kc_iconst_2 ?_
  refine r_iconst (pc := 6) dX5_init_6 kc_iconst_4 ?_
  refine r_multi (pc := 7) (t := 29) (ty := .long) dX5_init_7 (by decide) cnX5_9 ac21 (by decide) (by decide) (by decide) (by decide) (Nat.sub_le_sub_right (mX5_init_b11 h).1 _) (Nat.sub_le_sub_right (mX5_init_b11 h).2 _) ?_
  refine r_sub [0] rfl ?_
  exact wX5_init_b11 h
abbrev WX5_setParts (G : Gx) (l : Launch) (σ0 : Shp) (X1 : Stt) (rv : Option SV) : Stt → Nat → List (Nat × SV) → List SV → Prop := Wm G l yX5_setParts cX5_setParts 6 none (fun _ => True) (rmx 0 0 σ0 X1.1) σ0 (Qmx G σ0 X1 rv)
def fX5_setParts (σ : Shp) (I : Nat → Nat → Int32) (R : Nat → Nat → Option Nat) (t : Nat) (x1 : Int32) (x2 : Int32) (x3 : Int32) (x4 : Int32) (x5 : Int32) : Option ((Nat → Nat → Int32)) :=
  if kdx σ t = 6 then
  ((R t 1) : Option Nat).bind fun a2 =>
  if kdx σ a2 = 28 then
  if ¬ (x1 < 0 ∨ lnx σ a2 ≤ Int32.toNatClampNeg x1) then
  ((R a2 (Int32.toNatClampNeg x1)) : Option Nat).bind fun a5 =>
  if kdx σ a5 = 20 then
  if ¬ (x2 < 0 ∨ lnx σ a5 ≤ Int32.toNatClampNeg x2) then
  let I8 := u2 I a5 (Int32.toNatClampNeg x2) x3
  ((R t 2) : Option Nat).bind fun a9 =>
  if kdx σ a9 = 28 then
  if ¬ (x1 < 0 ∨ lnx σ a9 ≤ Int32.toNatClampNeg x1) then
  ((R a9 (Int32.toNatClampNeg x1)) : Option Nat).bind fun a12 =>
  if kdx σ a12 = 20 then
  if ¬ (x2 < 0 ∨ lnx σ a12 ≤ Int32.toNatClampNeg x2) then
  let I15 := u2 I8 a12 (Int32.toNatClampNeg x2) x4
  ((R t 3) : Option Nat).bind fun a16 =>
  if kdx σ a16 = 28 then
  if ¬ (x1 < 0 ∨ lnx σ a16 ≤ Int32.toNatClampNeg x1) then
  ((R a16 (Int32.toNatClampNeg x1)) : Option Nat).bind fun a19 =>
  if kdx σ a19 = 20 then
  if ¬ (x2 < 0 ∨ lnx σ a19 ≤ Int32.toNatClampNeg x2) then
  let I22 := u2 I15 a19 (Int32.toNatClampNeg x2) x5
  some I22
  else none
  else none
  else none
  else none
  else none
  else none
  else none
  else none
  else none
  else none
  else none
  else none
  else none
theorem kX5_setParts {G : Gx} {l : Launch} {σ : Shp} {I : Nat → Nat → Int32} {J : Nat → Nat → Int64} {D : Nat → Nat → UInt64} {R : Nat → Nat → Option Nat} {t : Nat} {x1 : Int32} {x2 : Int32} {x3 : Int32} {x4 : Int32} {x5 : Int32} {I9 : Nat → Nat → Int32} (h : fX5_setParts σ I R t x1 x2 x3 x4 x5 = some I9) : Con G l yX5_setParts cX5_setParts 6 none 0 0 [vR (some t), vI x1, vI x2, vI x3, vI x4, vI x5] (σ, I, J, D, R) (σ, I9, J, D, R) none := by
  unfold fX5_setParts at h
  refine Con.mk (by decide +kernel) rfl (Nat.le_of_ble_eq_true rfl) ?_
  show WX5_setParts G l σ (σ, I9, J, D, R) none (σ, I, J, D, R) 0 _ []
  refine r_aload_n (pc := 0) dX5_setParts_0 rfl 0 rfl ?_
  obtain ⟨g1, h⟩ := gd h
  obtain ⟨a2, ha2, h⟩ := ob h
  refine r_getS (pc := 1) dX5_setParts_1 fgX5_16 rfl g1 ha2 ?_
  refine r_iload_n (pc := 4) dX5_setParts_4 rfl 1 rfl ?_
  obtain ⟨g3, h⟩ := gd h
  obtain ⟨g4, h⟩ := gd h
  refine r_aaload (pc := 5) dX5_setParts_5 g3 (by decide) g4 ?_
  obtain ⟨a5, ha5, h⟩ := ob h
  refine r_ref0 ha5 ?_
  refine r_iload_n (pc := 6) dX5_setParts_6 rfl 2 rfl ?_
  refine r_iload_n (pc := 7) dX5_setParts_7 rfl 3 rfl ?_
  obtain ⟨g6, h⟩ := gd h
  obtain ⟨g7, h⟩ := gd h
  refine r_iastore (pc := 8) dX5_setParts_8 g6 g7 ?_
  refine r_aload_n (pc := 9) dX5_setParts_9 rfl 0 rfl ?_
  obtain ⟨a9, ha9, h⟩ := ob h
  refine r_getS (pc := 10) dX5_setParts_10 fgX5_19 rfl g1 ha9 ?_
  refine r_iload_n (pc := 13) dX5_setParts_13 rfl 1 rfl ?_
  obtain ⟨g10, h⟩ := gd h
  obtain ⟨g11, h⟩ := gd h
  refine r_aaload (pc := 14) dX5_setParts_14 g10 (by decide) g11 ?_
  obtain ⟨a12, ha12, h⟩ := ob h
  refine r_ref0 ha12 ?_
  refine r_iload_n (pc := 15) dX5_setParts_15 rfl 2 rfl ?_
  refine r_iload (pc := 16) dX5_setParts_16 4 rfl ?_
  obtain ⟨g13, h⟩ := gd h
  obtain ⟨g14, h⟩ := gd h
  refine r_iastore (pc := 18) dX5_setParts_18 g13 g14 ?_
  refine r_aload_n (pc := 19) dX5_setParts_19 rfl 0 rfl ?_
  obtain ⟨a16, ha16, h⟩ := ob h
  refine r_getS (pc := 20) dX5_setParts_20 fgX5_22 rfl g1 ha16 ?_
  refine r_iload_n (pc := 23) dX5_setParts_23 rfl 1 rfl ?_
  obtain ⟨g17, h⟩ := gd h
  obtain ⟨g18, h⟩ := gd h
  refine r_aaload (pc := 24) dX5_setParts_24 g17 (by decide) g18 ?_
  obtain ⟨a19, ha19, h⟩ := ob h
  refine r_ref0 ha19 ?_
  refine r_iload_n (pc := 25) dX5_setParts_25 rfl 2 rfl ?_
  refine r_iload (pc := 26) dX5_setParts_26 5 rfl ?_
  obtain ⟨g20, h⟩ := gd h
  obtain ⟨g21, h⟩ := gd h
  refine r_iastore (pc := 28) dX5_setParts_28 g20 g21 ?_
  cases h
  exact r_vret dX5_setParts_29
abbrev WX5_lessen (G : Gx) (l : Launch) (σ0 : Shp) (X1 : Stt) (rv : Option SV) : Stt → Nat → List (Nat × SV) → List SV → Prop := Wm G l yX5_lessen cX5_lessen 3 none (fun _ => True) (rmx 0 0 σ0 X1.1) σ0 (Qmx G σ0 X1 rv)
def fX5_lessen_l2  (σ : Shp) (R : Nat → Nat → Option Nat) (t : Nat) : Nat → (Nat → Nat → Int32) → (Nat → Nat → Int64) → (Int32) → (Int32) → Option ((Nat → Nat → Int32) × (Nat → Nat → Int64))
  | 0, _, _, _, _ => none
  | n + 1, I, J, x1, x2 =>
    if (4 : Int32) ≤ x2 then
      if kdx σ t = 6 then
      let I2 := u2 I t 9 (7 : Int32)
      some (I2, J)
      else none
    else
      if kdx σ t = 6 then
      ((R t 0) : Option Nat).bind fun a4 =>
      if kdx σ a4 = 29 then
      if ¬ (x1 < 0 ∨ lnx σ a4 ≤ Int32.toNatClampNeg x1) then
      ((R a4 (Int32.toNatClampNeg x1)) : Option Nat).bind fun a7 =>
      if kdx σ a7 = 21 then
      if ¬ (x2 < 0 ∨ lnx σ a7 ≤ Int32.toNatClampNeg x2) then
      let J10 := u2 J a7 (Int32.toNatClampNeg x2) ((J a7 (Int32.toNatClampNeg x2)) / (4 : Int64))
      let v11 := x2 + (1 : Int32)
      fX5_lessen_l2 σ R t n I J10 x1 v11
      else none
      else none
      else none
      else none
      else none
theorem wX5_lessen_l2 {G : Gx} {l : Launch} {σ : Shp} {D : Nat → Nat → UInt64} {R : Nat → Nat → Option Nat} {t : Nat} {I9 : Nat → Nat → Int32} {J9 : Nat → Nat → Int64} : ∀ (n : Nat) (I : Nat → Nat → Int32) (J : Nat → Nat → Int64) (x1 : Int32) (x2 : Int32), fX5_lessen_l2 σ R t n I J x1 x2 = some (I9, J9) → WX5_lessen G l σ (σ, I9, J9, D, R) none (σ, I, J, D, R) 2 [(0, vR (some t)), (1, vI x1), (2, vI x2)] [] := by
  intro n
  induction n with
  | zero =>
    intro I J x1 x2 h
    have h : none = some _ := h
    cases h
  | succ n ih =>
    intro I J x1 x2 h
    rw [fX5_lessen_l2] at h
    refine r_iload_n (pc := 2) dX5_lessen_2 rfl 2 rfl ?_
    refine r_iconst (pc := 3) dX5_lessen_3 kc_iconst_4 ?_
    refine r_icmp_ge (pc := 4) (tgt := 27) dX5_lessen_4 rfl (fun c => ?_) (fun c => ?_)
    · have h := it h c
      refine r_aload_n (pc := 27) dX5_lessen_27 rfl 0 rfl ?_
      refine r_bipush (pc := 28) dX5_lessen_28 kc_bipush_7 ?_
      obtain ⟨g1, h⟩ := gd h
      refine r_putI (pc := 30) dX5_lessen_30 fwX5_40 rfl g1 ?_
      cases h
      exact r_vret dX5_lessen_33
    · have h := ie h c
      refine r_aload_n (pc := 7) dX5_lessen_7 rfl 0 rfl ?_
      obtain ⟨g3, h⟩ := gd h
      obtain ⟨a4, ha4, h⟩ := ob h
      refine r_getS (pc := 8) dX5_lessen_8 fgX5_11 rfl g3 ha4 ?_
      refine r_iload_n (pc := 11) dX5_lessen_11 rfl 1 rfl ?_
      obtain ⟨g5, h⟩ := gd h
      obtain ⟨g6, h⟩ := gd h
      refine r_aaload (pc := 12) dX5_lessen_12 g5 (by decide) g6 ?_
      obtain ⟨a7, ha7, h⟩ := ob h
      refine r_ref0 ha7 ?_
      refine r_iload_n (pc := 13) dX5_lessen_13 rfl 2 rfl ?_
      refine r_dup2 (pc := 14) dX5_lessen_14 rfl rfl ?_
      obtain ⟨g8, h⟩ := gd h
      obtain ⟨g9, h⟩ := gd h
      refine r_laload (pc := 15) dX5_lessen_15 g8 g9 ?_
      refine r_ldc2 (pc := 16) dX5_lessen_16 clX5_38 ?_
      refine r_ldiv (pc := 19) dX5_lessen_19 (by decide) ?_
      refine r_lastore (pc := 20) dX5_lessen_20 g8 g9 ?_
      refine r_iinc (pc := 21) (v := (x2 + (1 : Int32))) (L' := [(2, vI (x2 + (1 : Int32))), (0, vR (some t)), (1, vI x1)]) dX5_lessen_21 2 rfl (kc_inc_1 _) (by decide) rfl ?_
      refine r_goto (pc := 24) (tgt := 2) dX5_lessen_24 rfl ?_
      refine r_sub [1, 2, 0] rfl ?_
      exact ih _ _ _ _ h
def fX5_lessen (σ : Shp) (I : Nat → Nat → Int32) (J : Nat → Nat → Int64) (R : Nat → Nat → Option Nat) (t : Nat) (x1 : Int32) : Option ((Nat → Nat → Int32) × (Nat → Nat → Int64)) :=
  fX5_lessen_l2 σ R t FUx I J x1 (0 : Int32)
theorem kX5_lessen {G : Gx} {l : Launch} {σ : Shp} {I : Nat → Nat → Int32} {J : Nat → Nat → Int64} {D : Nat → Nat → UInt64} {R : Nat → Nat → Option Nat} {t : Nat} {x1 : Int32} {I9 : Nat → Nat → Int32} {J9 : Nat → Nat → Int64} (h : fX5_lessen σ I J R t x1 = some (I9, J9)) : Con G l yX5_lessen cX5_lessen 3 none 0 0 [vR (some t), vI x1] (σ, I, J, D, R) (σ, I9, J9, D, R) none := by
  unfold fX5_lessen at h
  refine Con.mk (by decide +kernel) rfl (Nat.le_of_ble_eq_true rfl) ?_
  show WX5_lessen G l σ (σ, I9, J9, D, R) none (σ, I, J, D, R) 0 _ []
  refine r_iconst (pc := 0) dX5_lessen_0 kc_iconst_0 ?_
  refine r_istore_n (pc := 1) (L' := [(2, vI (0 : Int32)), (0, vR (some t)), (1, vI x1)]) dX5_lessen_1 rfl (by decide) rfl ?_
  refine r_sub [1, 2, 0] rfl ?_
  exact wX5_lessen_l2 _ _ _ _ _ h
abbrev WX11_shareOut (G : Gx) (l : Launch) (σ0 : Shp) (X1 : Stt) (rv : Option SV) : Stt → Nat → List (Nat × SV) → List SV → Prop := Wm G l yX11_shareOut cX11_shareOut 13 none (fun _ => True) (rmx 0 0 σ0 X1.1) σ0 (Qmx G σ0 X1 rv)
def fX11_shareOut_l113 (q94 : (Nat → Nat → Int64) → (Int32) → (Option Nat) → (Option Nat) → (Int64) → (Int32) → (Option ((Nat → Nat → Int64)))) (σ : Shp) : Nat → (Nat → Nat → Int64) → (Int32) → (Option Nat) → (Option Nat) → (Int64) → (Int32) → (Int32) → (Int32) → Option ((Nat → Nat → Int64))
  | 0, _, _, _, _, _, _, _, _ => none
  | n + 1, J, x3, x4, x5, x8, x10, x11, x12 =>
    if x3 ≤ x12 then
      (x4 : Option Nat).bind fun a1 =>
      if kdx σ a1 = 21 then
      if ¬ (x11 < 0 ∨ lnx σ a1 ≤ Int32.toNatClampNeg x11) then
      let J4 := u2 J a1 (Int32.toNatClampNeg x11) ((J a1 (Int32.toNatClampNeg x11)) + (1 : Int64))
      (x5 : Option Nat).bind fun a5 =>
      if kdx σ a5 = 21 then
      if ¬ (x11 < 0 ∨ lnx σ a5 ≤ Int32.toNatClampNeg x11) then
      let J8 := u2 J4 a5 (Int32.toNatClampNeg x11) (-1 : Int64)
      let v9 := (x8 - (1 : Int64))
      let v10 := x10 + (1 : Int32)
      q94 J8 x3 x4 x5 v9 v10
      else none
      else none
      else none
      else none
    else
      (x5 : Option Nat).bind fun a11 =>
      if kdx σ a11 = 21 then
      if ¬ (x12 < 0 ∨ lnx σ a11 ≤ Int32.toNatClampNeg x12) then
      if ¬ (x11 < 0 ∨ lnx σ a11 ≤ Int32.toNatClampNeg x11) then
      if (J a11 (Int32.toNatClampNeg x12)) ≤ (J a11 (Int32.toNatClampNeg x11)) then
        let v15 := x12 + (1 : Int32)
        fX11_shareOut_l113 q94 σ n J x3 x4 x5 x8 x10 x11 v15
      else
        let v16 := x12 + (1 : Int32)
        fX11_shareOut_l113 q94 σ n J x3 x4 x5 x8 x10 x12 v16
      else none
      else none
      else none
theorem wX11_shareOut_l113 {G : Gx} {l : Launch} {σ : Shp} {I : Nat → Nat → Int32} {D : Nat → Nat → UInt64} {R : Nat → Nat → Option Nat} {J9 : Nat → Nat → Int64} {q94 : (Nat → Nat → Int64) → (Int32) → (Option Nat) → (Option Nat) → (Int64) → (Int32) → (Option ((Nat → Nat → Int64)))} (hq94 : ∀ (J : Nat → Nat → Int64) (x3 : Int32) (x4 : Option Nat) (x5 : Option Nat) (x8 : Int64) (x10 : Int32), q94 J x3 x4 x5 x8 x10 = some J9 → WX11_shareOut G l σ (σ, I, J9, D, R) none (σ, I, J, D, R) 94 [(3, vI x3), (4, vR x4), (5, vR x5), (8, vL x8), (10, vI x10)] []) : ∀ (n : Nat) (J : Nat → Nat → Int64) (x3 : Int32) (x4 : Option Nat) (x5 : Option Nat) (x8 : Int64) (x10 : Int32) (x11 : Int32) (x12 : Int32), fX11_shareOut_l113 q94 σ n J x3 x4 x5 x8 x10 x11 x12 = some J9 → WX11_shareOut G l σ (σ, I, J9, D, R) none (σ, I, J, D, R) 113 [(3, vI x3), (4, vR x4), (5, vR x5), (8, vL x8), (10, vI x10), (11, vI x11), (12, vI x12)] [] := by
  intro n
  induction n with
  | zero =>
    intro J x3 x4 x5 x8 x10 x11 x12 h
    have h : none = some _ := h
    cases h
  | succ n ih =>
    intro J x3 x4 x5 x8 x10 x11 x12 h
    rw [fX11_shareOut_l113] at h
    refine r_iload (pc := 113) dX11_shareOut_113 6 rfl ?_
    refine r_iload_n (pc := 115) dX11_shareOut_115 rfl 0 rfl ?_
    refine r_icmp_ge (pc := 116) (tgt := 143) dX11_shareOut_116 rfl (fun c => ?_) (fun c => ?_)
    · have h := it h c
      refine r_aload (pc := 143) dX11_shareOut_143 1 rfl ?_
      refine r_iload (pc := 145) dX11_shareOut_145 5 rfl ?_
      refine r_dup2 (pc := 147) dX11_shareOut_147 rfl rfl ?_
      obtain ⟨a1, ha1, h⟩ := ob h
      refine r_ref1 ha1 ?_
      obtain ⟨g2, h⟩ := gd h
      obtain ⟨g3, h⟩ := gd h
      refine r_laload (pc := 148) dX11_shareOut_148 g2 g3 ?_
      refine r_lconst (pc := 149) dX11_shareOut_149 kc_lconst_1 ?_
      refine r_ladd (pc := 150) dX11_shareOut_150 ?_
      refine r_ref2 ha1 ?_
      refine r_lastore (pc := 151) dX11_shareOut_151 g2 g3 ?_
      refine r_aload (pc := 152) dX11_shareOut_152 2 rfl ?_
      refine r_iload (pc := 154) dX11_shareOut_154 5 rfl ?_
      refine r_ldc2 (pc := 156) dX11_shareOut_156 clX11_583 ?_
      obtain ⟨a5, ha5, h⟩ := ob h
      refine r_ref2 ha5 ?_
      obtain ⟨g6, h⟩ := gd h
      obtain ⟨g7, h⟩ := gd h
      refine r_lastore (pc := 159) dX11_shareOut_159 g6 g7 ?_
      refine r_lload (pc := 160) dX11_shareOut_160 3 rfl ?_
      refine r_lconst (pc := 162) dX11_shareOut_162 kc_lconst_1 ?_
      refine r_lsub (pc := 163) dX11_shareOut_163 ?_
      refine r_lstore (pc := 164) (L' := [(8, vL (x8 - (1 : Int64))), (3, vI x3), (4, vR x4), (5, vR x5), (10, vI x10), (11, vI x11), (12, vI x12)]) dX11_shareOut_164 (by decide) rfl ?_
      refine r_iinc (pc := 166) (v := (x10 + (1 : Int32))) (L' := [(10, vI (x10 + (1 : Int32))), (8, vL (x8 - (1 : Int64))), (3, vI x3), (4, vR x4), (5, vR x5), (11, vI x11), (12, vI x12)]) dX11_shareOut_166 4 rfl (kc_inc_1 _) (by decide) rfl ?_
      refine r_goto (pc := 169) (tgt := 94) dX11_shareOut_169 rfl ?_
      refine r_sub [2, 3, 4, 1, 0] rfl ?_
      exact hq94 _ _ _ _ _ _ h
    · have h := ie h c
      refine r_aload (pc := 119) dX11_shareOut_119 2 rfl ?_
      refine r_iload (pc := 121) dX11_shareOut_121 6 rfl ?_
      obtain ⟨a11, ha11, h⟩ := ob h
      refine r_ref1 ha11 ?_
      obtain ⟨g12, h⟩ := gd h
      obtain ⟨g13, h⟩ := gd h
      refine r_laload (pc := 123) dX11_shareOut_123 g12 g13 ?_
      refine r_aload (pc := 124) dX11_shareOut_124 2 rfl ?_
      refine r_ref0 ha11 ?_
      refine r_iload (pc := 126) dX11_shareOut_126 5 rfl ?_
      obtain ⟨g14, h⟩ := gd h
      refine r_laload (pc := 128) dX11_shareOut_128 g12 g14 ?_
      refine r_lcmp (pc := 129) dX11_shareOut_129 ?_
      refine r_if_le (pc := 130) (tgt := 137) dX11_shareOut_130 rfl (fun c => ?_) (fun c => ?_)
      · have h := it h (lgc_le.mp c)
        refine r_iinc (pc := 137) (v := (x12 + (1 : Int32))) (L' := [(12, vI (x12 + (1 : Int32))), (3, vI x3), (4, vR x4), (5, vR x5), (8, vL x8), (10, vI x10), (11, vI x11)]) dX11_shareOut_137 6 rfl (kc_inc_1 _) (by decide) rfl ?_
        refine r_goto (pc := 140) (tgt := 113) dX11_shareOut_140 rfl ?_
        refine r_sub [1, 2, 3, 4, 5, 6, 0] rfl ?_
        exact ih _ _ _ _ _ _ _ _ h
      · have h := ie h (fun q => c (lgc_le.mpr q))
        refine r_iload (pc := 133) dX11_shareOut_133 6 rfl ?_
        refine r_istore (pc := 135) (L' := [(11, vI x12), (3, vI x3), (4, vR x4), (5, vR x5), (8, vL x8), (10, vI x10), (12, vI x12)]) dX11_shareOut_135 (by decide) rfl ?_
        refine r_iinc (pc := 137) (v := (x12 + (1 : Int32))) (L' := [(12, vI (x12 + (1 : Int32))), (11, vI x12), (3, vI x3), (4, vR x4), (5, vR x5), (8, vL x8), (10, vI x10)]) dX11_shareOut_137 6 rfl (kc_inc_1 _) (by decide) rfl ?_
        refine r_goto (pc := 140) (tgt := 113) dX11_shareOut_140 rfl ?_
        refine r_sub [2, 3, 4, 5, 6, 1, 0] rfl ?_
        exact ih _ _ _ _ _ _ _ _ h
def fX11_shareOut_l94  (σ : Shp) : Nat → (Nat → Nat → Int64) → (Int32) → (Option Nat) → (Option Nat) → (Int64) → (Int32) → Option ((Nat → Nat → Int64))
  | 0, _, _, _, _, _, _ => none
  | n + 1, J, x3, x4, x5, x8, x10 =>
    if x3 ≤ x10 then
      some J
    else
      if x8 ≤ (0 : Int64) then
        some J
      else
        fX11_shareOut_l113 (fX11_shareOut_l94 σ n) σ FUx J x3 x4 x5 x8 x10 (0 : Int32) (1 : Int32)
theorem wX11_shareOut_l94 {G : Gx} {l : Launch} {σ : Shp} {I : Nat → Nat → Int32} {D : Nat → Nat → UInt64} {R : Nat → Nat → Option Nat} {J9 : Nat → Nat → Int64} : ∀ (n : Nat) (J : Nat → Nat → Int64) (x3 : Int32) (x4 : Option Nat) (x5 : Option Nat) (x8 : Int64) (x10 : Int32), fX11_shareOut_l94 σ n J x3 x4 x5 x8 x10 = some J9 → WX11_shareOut G l σ (σ, I, J9, D, R) none (σ, I, J, D, R) 94 [(3, vI x3), (4, vR x4), (5, vR x5), (8, vL x8), (10, vI x10)] [] := by
  intro n
  induction n with
  | zero =>
    intro J x3 x4 x5 x8 x10 h
    have h : none = some _ := h
    cases h
  | succ n ih =>
    intro J x3 x4 x5 x8 x10 h
    rw [fX11_shareOut_l94] at h
    refine r_iload (pc := 94) dX11_shareOut_94 4 rfl ?_
    refine r_iload_n (pc := 96) dX11_shareOut_96 rfl 0 rfl ?_
    refine r_icmp_ge (pc := 97) (tgt := 172) dX11_shareOut_97 rfl (fun c => ?_) (fun c => ?_)
    · have h := it h c
      cases h
      exact r_vret dX11_shareOut_172
    · have h := ie h c
      refine r_lload (pc := 100) dX11_shareOut_100 3 rfl ?_
      refine r_lconst (pc := 102) dX11_shareOut_102 kc_lconst_0 ?_
      refine r_lcmp (pc := 103) dX11_shareOut_103 ?_
      refine r_if_le (pc := 104) (tgt := 172) dX11_shareOut_104 rfl (fun c => ?_) (fun c => ?_)
      · have h := it h (lgc_le.mp c)
        cases h
        exact r_vret dX11_shareOut_172
      · have h := ie h (fun q => c (lgc_le.mpr q))
        refine r_iconst (pc := 107) dX11_shareOut_107 kc_iconst_0 ?_
        refine r_istore (pc := 108) (L' := [(11, vI (0 : Int32)), (3, vI x3), (4, vR x4), (5, vR x5), (8, vL x8), (10, vI x10)]) dX11_shareOut_108 (by decide) rfl ?_
        refine r_iconst (pc := 110) dX11_shareOut_110 kc_iconst_1 ?_
        refine r_istore (pc := 111) (L' := [(12, vI (1 : Int32)), (11, vI (0 : Int32)), (3, vI x3), (4, vR x4), (5, vR x5), (8, vL x8), (10, vI x10)]) dX11_shareOut_111 (by decide) rfl ?_
        refine r_sub [2, 3, 4, 5, 6, 1, 0] rfl ?_
        exact wX11_shareOut_l113 ih _ _ _ _ _ _ _ _ _ h
def fX11_shareOut_l41  (σ : Shp) : Nat → (Nat → Nat → Int64) → (Int64) → (Option Nat) → (Int32) → (Option Nat) → (Option Nat) → (Int64) → (Int64) → (Int32) → Option ((Nat → Nat → Int64))
  | 0, _, _, _, _, _, _, _, _, _ => none
  | n + 1, J, x0, x2, x3, x4, x5, x6, x8, x10 =>
    if x3 ≤ x10 then
      fX11_shareOut_l94 σ FUx J x3 x4 x5 x8 (0 : Int32)
    else
      (x2 : Option Nat).bind fun a17 =>
      if kdx σ a17 = 21 then
      if ¬ (x10 < 0 ∨ lnx σ a17 ≤ Int32.toNatClampNeg x10) then
      if ¬ x6 = 0 then
      (x4 : Option Nat).bind fun a21 =>
      if kdx σ a21 = 21 then
      if ¬ (x10 < 0 ∨ lnx σ a21 ≤ Int32.toNatClampNeg x10) then
      let J24 := u2 J a21 (Int32.toNatClampNeg x10) ((x0 * (J a17 (Int32.toNatClampNeg x10))) / x6)
      (x5 : Option Nat).bind fun a25 =>
      if kdx σ a25 = 21 then
      if ¬ (x10 < 0 ∨ lnx σ a25 ≤ Int32.toNatClampNeg x10) then
      let J28 := u2 J24 a25 (Int32.toNatClampNeg x10) ((x0 * (J24 a17 (Int32.toNatClampNeg x10))) - (x0 * (J24 a17 (Int32.toNatClampNeg x10))) / x6 * x6)
      let v29 := (x8 - (J28 a21 (Int32.toNatClampNeg x10)))
      let v30 := x10 + (1 : Int32)
      fX11_shareOut_l41 σ n J28 x0 x2 x3 x4 x5 x6 v29 v30
      else none
      else none
      else none
      else none
      else none
      else none
      else none
theorem wX11_shareOut_l41 {G : Gx} {l : Launch} {σ : Shp} {I : Nat → Nat → Int32} {D : Nat → Nat → UInt64} {R : Nat → Nat → Option Nat} {J9 : Nat → Nat → Int64} : ∀ (n : Nat) (J : Nat → Nat → Int64) (x0 : Int64) (x2 : Option Nat) (x3 : Int32) (x4 : Option Nat) (x5 : Option Nat) (x6 : Int64) (x8 : Int64) (x10 : Int32), fX11_shareOut_l41 σ n J x0 x2 x3 x4 x5 x6 x8 x10 = some J9 → WX11_shareOut G l σ (σ, I, J9, D, R) none (σ, I, J, D, R) 41 [(0, vL x0), (2, vR x2), (3, vI x3), (4, vR x4), (5, vR x5), (6, vL x6), (8, vL x8), (10, vI x10)] [] := by
  intro n
  induction n with
  | zero =>
    intro J x0 x2 x3 x4 x5 x6 x8 x10 h
    have h : none = some _ := h
    cases h
  | succ n ih =>
    intro J x0 x2 x3 x4 x5 x6 x8 x10 h
    rw [fX11_shareOut_l41] at h
    refine r_iload (pc := 41) dX11_shareOut_41 7 rfl ?_
    refine r_iload_n (pc := 43) dX11_shareOut_43 rfl 2 rfl ?_
    refine r_icmp_ge (pc := 44) (tgt := 91) dX11_shareOut_44 rfl (fun c => ?_) (fun c => ?_)
    · have h := it h c
      refine r_iconst (pc := 91) dX11_shareOut_91 kc_iconst_0 ?_
      refine r_istore (pc := 92) (L' := [(10, vI (0 : Int32)), (0, vL x0), (2, vR x2), (3, vI x3), (4, vR x4), (5, vR x5), (6, vL x6), (8, vL x8)]) dX11_shareOut_92 (by decide) rfl ?_
      refine r_sub [3, 4, 5, 7, 0] rfl ?_
      exact wX11_shareOut_l94 _ _ _ _ _ _ _ h
    · have h := ie h c
      refine r_aload (pc := 47) dX11_shareOut_47 3 rfl ?_
      refine r_iload (pc := 49) dX11_shareOut_49 7 rfl ?_
      refine r_lload_n (pc := 51) dX11_shareOut_51 rfl 0 rfl ?_
      refine r_aload_n (pc := 52) dX11_shareOut_52 rfl 1 rfl ?_
      refine r_iload (pc := 53) dX11_shareOut_53 7 rfl ?_
      obtain ⟨a17, ha17, h⟩ := ob h
      refine r_ref1 ha17 ?_
      obtain ⟨g18, h⟩ := gd h
      obtain ⟨g19, h⟩ := gd h
      refine r_laload (pc := 55) dX11_shareOut_55 g18 g19 ?_
      refine r_lmul (pc := 56) dX11_shareOut_56 ?_
      refine r_lload (pc := 57) dX11_shareOut_57 5 rfl ?_
      obtain ⟨g20, h⟩ := gd h
      refine r_ldiv (pc := 59) dX11_shareOut_59 g20 ?_
      obtain ⟨a21, ha21, h⟩ := ob h
      refine r_ref2 ha21 ?_
      obtain ⟨g22, h⟩ := gd h
      obtain ⟨g23, h⟩ := gd h
      refine r_lastore (pc := 60) dX11_shareOut_60 g22 g23 ?_
      refine r_aload (pc := 61) dX11_shareOut_61 4 rfl ?_
      refine r_iload (pc := 63) dX11_shareOut_63 7 rfl ?_
      refine r_lload_n (pc := 65) dX11_shareOut_65 rfl 0 rfl ?_
      refine r_aload_n (pc := 66) dX11_shareOut_66 rfl 1 rfl ?_
      refine r_ref0 ha17 ?_
      refine r_iload (pc := 67) dX11_shareOut_67 7 rfl ?_
      refine r_laload (pc := 69) dX11_shareOut_69 g18 g19 ?_
      refine r_lmul (pc := 70) dX11_shareOut_70 ?_
      refine r_lload (pc := 71) dX11_shareOut_71 5 rfl ?_
      refine r_lrem (pc := 73) dX11_shareOut_73 g20 ?_
      obtain ⟨a25, ha25, h⟩ := ob h
      refine r_ref2 ha25 ?_
      obtain ⟨g26, h⟩ := gd h
      obtain ⟨g27, h⟩ := gd h
      refine r_lastore (pc := 74) dX11_shareOut_74 g26 g27 ?_
      refine r_lload (pc := 75) dX11_shareOut_75 6 rfl ?_
      refine r_aload (pc := 77) dX11_shareOut_77 3 rfl ?_
      refine r_ref0 ha21 ?_
      refine r_iload (pc := 79) dX11_shareOut_79 7 rfl ?_
      refine r_laload (pc := 81) dX11_shareOut_81 g22 g23 ?_
      refine r_lsub (pc := 82) dX11_shareOut_82 ?_
      refine r_lstore (pc := 83) (L' := [(8, vL (x8 - ((u2 (u2 J a21 (Int32.toNatClampNeg x10) ((x0 * (J a17 (Int32.toNatClampNeg x10))) / x6)) a25 (Int32.toNatClampNeg x10) ((x0 * ((u2 J a21 (Int32.toNatClampNeg x10) ((x0 * (J a17 (Int32.toNatClampNeg x10))) / x6)) a17 (Int32.toNatClampNeg x10))) - (x0 * ((u2 J a21 (Int32.toNatClampNeg x10) ((x0 * (J a17 (Int32.toNatClampNeg x10))) / x6)) a17 (Int32.toNatClampNeg x10))) / x6 * x6)) a21 (Int32.toNatClampNeg x10)))), (0, vL x0), (2, vR x2), (3, vI x3), (4, vR x4), (5, vR x5), (6, vL x6), (10, vI x10)]) dX11_shareOut_83 (by decide) rfl ?_
      refine r_iinc (pc := 85) (v := (x10 + (1 : Int32))) (L' := [(10, vI (x10 + (1 : Int32))), (8, vL (x8 - ((u2 (u2 J a21 (Int32.toNatClampNeg x10) ((x0 * (J a17 (Int32.toNatClampNeg x10))) / x6)) a25 (Int32.toNatClampNeg x10) ((x0 * ((u2 J a21 (Int32.toNatClampNeg x10) ((x0 * (J a17 (Int32.toNatClampNeg x10))) / x6)) a17 (Int32.toNatClampNeg x10))) - (x0 * ((u2 J a21 (Int32.toNatClampNeg x10) ((x0 * (J a17 (Int32.toNatClampNeg x10))) / x6)) a17 (Int32.toNatClampNeg x10))) / x6 * x6)) a21 (Int32.toNatClampNeg x10)))), (0, vL x0), (2, vR x2), (3, vI x3), (4, vR x4), (5, vR x5), (6, vL x6)]) dX11_shareOut_85 7 rfl (kc_inc_1 _) (by decide) rfl ?_
      refine r_goto (pc := 88) (tgt := 41) dX11_shareOut_88 rfl ?_
      refine r_sub [2, 3, 4, 5, 6, 7, 1, 0] rfl ?_
      exact ih _ _ _ _ _ _ _ _ _ h
def fX11_shareOut_l6  (σ : Shp) : Nat → (Nat → Nat → Int64) → (Int64) → (Option Nat) → (Int32) → (Option Nat) → (Option Nat) → (Int64) → (Int32) → Option ((Nat → Nat → Int64))
  | 0, _, _, _, _, _, _, _, _ => none
  | n + 1, J, x0, x2, x3, x4, x5, x6, x8 =>
    if x3 ≤ x8 then
      if (0 : Int64) < x6 then
        fX11_shareOut_l41 σ FUx J x0 x2 x3 x4 x5 x6 x0 (0 : Int32)
      else
        some J
    else
      (x2 : Option Nat).bind fun a31 =>
      if kdx σ a31 = 21 then
      if ¬ (x8 < 0 ∨ lnx σ a31 ≤ Int32.toNatClampNeg x8) then
      let v34 := (x6 + (J a31 (Int32.toNatClampNeg x8)))
      let v35 := x8 + (1 : Int32)
      fX11_shareOut_l6 σ n J x0 x2 x3 x4 x5 v34 v35
      else none
      else none
theorem wX11_shareOut_l6 {G : Gx} {l : Launch} {σ : Shp} {I : Nat → Nat → Int32} {D : Nat → Nat → UInt64} {R : Nat → Nat → Option Nat} {J9 : Nat → Nat → Int64} : ∀ (n : Nat) (J : Nat → Nat → Int64) (x0 : Int64) (x2 : Option Nat) (x3 : Int32) (x4 : Option Nat) (x5 : Option Nat) (x6 : Int64) (x8 : Int32), fX11_shareOut_l6 σ n J x0 x2 x3 x4 x5 x6 x8 = some J9 → WX11_shareOut G l σ (σ, I, J9, D, R) none (σ, I, J, D, R) 6 [(0, vL x0), (2, vR x2), (3, vI x3), (4, vR x4), (5, vR x5), (6, vL x6), (8, vI x8)] [] := by
  intro n
  induction n with
  | zero =>
    intro J x0 x2 x3 x4 x5 x6 x8 h
    have h : none = some _ := h
    cases h
  | succ n ih =>
    intro J x0 x2 x3 x4 x5 x6 x8 h
    rw [fX11_shareOut_l6] at h
    refine r_iload (pc := 6) dX11_shareOut_6 6 rfl ?_
    refine r_iload_n (pc := 8) dX11_shareOut_8 rfl 2 rfl ?_
    refine r_icmp_ge (pc := 9) (tgt := 27) dX11_shareOut_9 rfl (fun c => ?_) (fun c => ?_)
    · have h := it h c
      refine r_lload (pc := 27) dX11_shareOut_27 5 rfl ?_
      refine r_lconst (pc := 29) dX11_shareOut_29 kc_lconst_0 ?_
      refine r_lcmp (pc := 30) dX11_shareOut_30 ?_
      refine r_ifgt (pc := 31) (tgt := 35) dX11_shareOut_31 rfl (fun c => ?_) (fun c => ?_)
      · have h := it h (lgc_gt.mp c)
        refine r_lload_n (pc := 35) dX11_shareOut_35 rfl 0 rfl ?_
        refine r_lstore (pc := 36) (L' := [(8, vL x0), (0, vL x0), (2, vR x2), (3, vI x3), (4, vR x4), (5, vR x5), (6, vL x6)]) dX11_shareOut_36 (by decide) rfl ?_
        refine r_iconst (pc := 38) dX11_shareOut_38 kc_iconst_0 ?_
        refine r_istore (pc := 39) (L' := [(10, vI (0 : Int32)), (8, vL x0), (0, vL x0), (2, vR x2), (3, vI x3), (4, vR x4), (5, vR x5), (6, vL x6)]) dX11_shareOut_39 (by decide) rfl ?_
        refine r_sub [2, 3, 4, 5, 6, 7, 1, 0] rfl ?_
        exact wX11_shareOut_l41 _ _ _ _ _ _ _ _ _ _ h
      · have h := ie h (fun q => c (lgc_gt.mpr q))
        cases h
        exact r_vret dX11_shareOut_34
    · have h := ie h c
      refine r_lload (pc := 12) dX11_shareOut_12 5 rfl ?_
      refine r_aload_n (pc := 14) dX11_shareOut_14 rfl 1 rfl ?_
      refine r_iload (pc := 15) dX11_shareOut_15 6 rfl ?_
      obtain ⟨a31, ha31, h⟩ := ob h
      refine r_ref1 ha31 ?_
      obtain ⟨g32, h⟩ := gd h
      obtain ⟨g33, h⟩ := gd h
      refine r_laload (pc := 17) dX11_shareOut_17 g32 g33 ?_
      refine r_ladd (pc := 18) dX11_shareOut_18 ?_
      refine r_lstore (pc := 19) (L' := [(6, vL (x6 + (J a31 (Int32.toNatClampNeg x8)))), (0, vL x0), (2, vR x2), (3, vI x3), (4, vR x4), (5, vR x5), (8, vI x8)]) dX11_shareOut_19 (by decide) rfl ?_
      refine r_iinc (pc := 21) (v := (x8 + (1 : Int32))) (L' := [(8, vI (x8 + (1 : Int32))), (6, vL (x6 + (J a31 (Int32.toNatClampNeg x8)))), (0, vL x0), (2, vR x2), (3, vI x3), (4, vR x4), (5, vR x5)]) dX11_shareOut_21 6 rfl (kc_inc_1 _) (by decide) rfl ?_
      refine r_goto (pc := 24) (tgt := 6) dX11_shareOut_24 rfl ?_
      refine r_sub [2, 3, 4, 5, 6, 1, 0] rfl ?_
      exact ih _ _ _ _ _ _ _ _ h
def fX11_shareOut (σ : Shp) (J : Nat → Nat → Int64) (x0 : Int64) (x2 : Option Nat) (x3 : Int32) (x4 : Option Nat) (x5 : Option Nat) : Option ((Nat → Nat → Int64)) :=
  fX11_shareOut_l6 σ FUx J x0 x2 x3 x4 x5 (0 : Int64) (0 : Int32)
theorem kX11_shareOut {G : Gx} {l : Launch} {σ : Shp} {I : Nat → Nat → Int32} {J : Nat → Nat → Int64} {D : Nat → Nat → UInt64} {R : Nat → Nat → Option Nat} {x0 : Int64} {x2 : Option Nat} {x3 : Int32} {x4 : Option Nat} {x5 : Option Nat} {J9 : Nat → Nat → Int64} (h : fX11_shareOut σ J x0 x2 x3 x4 x5 = some J9) : Con G l yX11_shareOut cX11_shareOut 13 none 0 0 [vL x0, vR x2, vI x3, vR x4, vR x5] (σ, I, J, D, R) (σ, I, J9, D, R) none := by
  unfold fX11_shareOut at h
  refine Con.mk (by decide +kernel) rfl (Nat.le_of_ble_eq_true rfl) ?_
  show WX11_shareOut G l σ (σ, I, J9, D, R) none (σ, I, J, D, R) 0 _ []
  refine r_lconst (pc := 0) dX11_shareOut_0 kc_lconst_0 ?_
  refine r_lstore (pc := 1) (L' := [(6, vL (0 : Int64)), (0, vL x0), (2, vR x2), (3, vI x3), (4, vR x4), (5, vR x5)]) dX11_shareOut_1 (by decide) rfl ?_
  refine r_iconst (pc := 3) dX11_shareOut_3 kc_iconst_0 ?_
  refine r_istore (pc := 4) (L' := [(8, vI (0 : Int32)), (6, vL (0 : Int64)), (0, vL x0), (2, vR x2), (3, vI x3), (4, vR x4), (5, vR x5)]) dX11_shareOut_4 (by decide) rfl ?_
  refine r_sub [2, 3, 4, 5, 6, 1, 0] rfl ?_
  exact wX11_shareOut_l6 _ _ _ _ _ _ _ _ _ h
abbrev WX5_dayOf (G : Gx) (l : Launch) (σ0 : Shp) (X1 : Stt) (rv : Option SV) : Stt → Nat → List (Nat × SV) → List SV → Prop := Wm G l yX5_dayOf cX5_dayOf 3 none (fun _ => True) (rmx 1 32 σ0 X1.1) σ0 (Qmx G σ0 X1 rv)
def fX5_dayOf_l179  (σ : Shp) (I : Nat → Nat → Int32) (R : Nat → Nat → Option Nat) (t : Nat) : Nat → (Nat → Nat → Int64) → (Int32) → (Int32) → Option ((Nat → Nat → Int64))
  | 0, _, _, _ => none
  | n + 1, J, x1, x2 =>
    if (4 : Int32) ≤ x2 then
      some J
    else
      if kdx σ t = 6 then
      ((R t 0) : Option Nat).bind fun a19 =>
      if kdx σ a19 = 29 then
      if ¬ (x1 < 0 ∨ lnx σ a19 ≤ Int32.toNatClampNeg x1) then
      ((R a19 (Int32.toNatClampNeg x1)) : Option Nat).bind fun a22 =>
      ((R t 7) : Option Nat).bind fun a23 =>
      if kdx σ a23 = 21 then
      if ¬ (x2 < 0 ∨ lnx σ a23 ≤ Int32.toNatClampNeg x2) then
      if kdx σ a22 = 21 then
      if ¬ (x2 < 0 ∨ lnx σ a22 ≤ Int32.toNatClampNeg x2) then
      let J28 := u2 J a22 (Int32.toNatClampNeg x2) (fXM_minJ (1000000000 : Int64) (J a23 (Int32.toNatClampNeg x2)))
      let v29 := x2 + (1 : Int32)
      fX5_dayOf_l179 σ I R t n J28 x1 v29
      else none
      else none
      else none
      else none
      else none
      else none
      else none
theorem wX5_dayOf_l179 {G : Gx} {l : Launch} {σ : Shp} {I : Nat → Nat → Int32} {D : Nat → Nat → UInt64} {R : Nat → Nat → Option Nat} {t : Nat} {J9 : Nat → Nat → Int64} : ∀ (n : Nat) (J : Nat → Nat → Int64) (x1 : Int32) (x2 : Int32), fX5_dayOf_l179 σ I R t n J x1 x2 = some J9 → WX5_dayOf G l σ (σ, I, J9, D, R) none (σ, I, J, D, R) 179 [(0, vR (some t)), (1, vI x1), (2, vI x2)] [] := by
  intro n
  induction n with
  | zero =>
    intro J x1 x2 h
    have h : none = some _ := h
    cases h
  | succ n ih =>
    intro J x1 x2 h
    rw [fX5_dayOf_l179] at h
    refine r_iload_n (pc := 179) dX5_dayOf_179 rfl 2 rfl ?_
    refine r_iconst (pc := 180) dX5_dayOf_180 kc_iconst_4 ?_
    refine r_icmp_ge (pc := 181) (tgt := 210) dX5_dayOf_181 rfl (fun c => ?_) (fun c => ?_)
    · have h := it h c
      cases h
      exact r_vret dX5_dayOf_210
    · have h := ie h c
      refine r_aload_n (pc := 184) dX5_dayOf_184 rfl 0 rfl ?_
      obtain ⟨g18, h⟩ := gd h
      obtain ⟨a19, ha19, h⟩ := ob h
      refine r_getS (pc := 185) dX5_dayOf_185 fgX5_11 rfl g18 ha19 ?_
      refine r_iload_n (pc := 188) dX5_dayOf_188 rfl 1 rfl ?_
      obtain ⟨g20, h⟩ := gd h
      obtain ⟨g21, h⟩ := gd h
      refine r_aaload (pc := 189) dX5_dayOf_189 g20 (by decide) g21 ?_
      obtain ⟨a22, ha22, h⟩ := ob h
      refine r_ref0 ha22 ?_
      refine r_iload_n (pc := 190) dX5_dayOf_190 rfl 2 rfl ?_
      refine r_ldc2 (pc := 191) dX5_dayOf_191 clX5_61 ?_
      refine r_aload_n (pc := 194) dX5_dayOf_194 rfl 0 rfl ?_
      obtain ⟨a23, ha23, h⟩ := ob h
      refine r_getS (pc := 195) dX5_dayOf_195 fgX5_35 rfl g18 ha23 ?_
      refine r_iload_n (pc := 198) dX5_dayOf_198 rfl 2 rfl ?_
      obtain ⟨g24, h⟩ := gd h
      obtain ⟨g25, h⟩ := gd h
      refine r_laload (pc := 199) dX5_dayOf_199 g24 g25 ?_
      refine r_callS1 (pc := 200) (av := [vL (1000000000 : Int64), vL (J a23 (Int32.toNatClampNeg x2))]) (S := [vI x2, vR (some a22)]) dX5_dayOf_200 (kXM_minJ rfl) mkX5_63 mwXM_minJ rfl ⟨Nat.le_of_ble_eq_true rfl, Nat.le_of_ble_eq_true rfl⟩ (Nat.le_of_ble_eq_true rfl) ⟨Nat.le_refl _, Nat.le_refl _⟩ (fun b => b) ?_
      obtain ⟨g26, h⟩ := gd h
      obtain ⟨g27, h⟩ := gd h
      refine r_lastore (pc := 203) dX5_dayOf_203 g26 g27 ?_
      refine r_iinc (pc := 204) (v := (x2 + (1 : Int32))) (L' := [(2, vI (x2 + (1 : Int32))), (0, vR (some t)), (1, vI x1)]) dX5_dayOf_204 2 rfl (kc_inc_1 _) (by decide) rfl ?_
      refine r_goto (pc := 207) (tgt := 179) dX5_dayOf_207 rfl ?_
      refine r_sub [1, 2, 0] rfl ?_
      exact ih _ _ _ h
def fX5_dayOf_l50  (σ : Shp) (I : Nat → Nat → Int32) (R : Nat → Nat → Option Nat) (t : Nat) : Nat → (Nat → Nat → Int64) → (Int32) → (Int32) → Option ((Nat → Nat → Int64))
  | 0, _, _, _ => none
  | n + 1, J, x1, x2 =>
    if (4 : Int32) ≤ x2 then
      fX5_dayOf_l179 σ I R t FUx J x1 (0 : Int32)
    else
      if kdx σ t = 6 then
      ((R t 4) : Option Nat).bind fun a31 =>
      ((R t 1) : Option Nat).bind fun a32 =>
      if kdx σ a32 = 28 then
      if ¬ (x1 < 0 ∨ lnx σ a32 ≤ Int32.toNatClampNeg x1) then
      ((R a32 (Int32.toNatClampNeg x1)) : Option Nat).bind fun a35 =>
      if kdx σ a35 = 20 then
      if ¬ (x2 < 0 ∨ lnx σ a35 ≤ Int32.toNatClampNeg x2) then
      if kdx σ a31 = 21 then
      if ¬ ((0 : Int32) < 0 ∨ lnx σ a31 ≤ Int32.toNatClampNeg (0 : Int32)) then
      let J40 := u2 J a31 (Int32.toNatClampNeg (0 : Int32)) (Int32.toInt64 (I a35 (Int32.toNatClampNeg x2)))
      ((R t 2) : Option Nat).bind fun a41 =>
      if kdx σ a41 = 28 then
      if ¬ (x1 < 0 ∨ lnx σ a41 ≤ Int32.toNatClampNeg x1) then
      ((R a41 (Int32.toNatClampNeg x1)) : Option Nat).bind fun a44 =>
      if kdx σ a44 = 20 then
      if ¬ (x2 < 0 ∨ lnx σ a44 ≤ Int32.toNatClampNeg x2) then
      if ¬ ((1 : Int32) < 0 ∨ lnx σ a31 ≤ Int32.toNatClampNeg (1 : Int32)) then
      let J48 := u2 J40 a31 (Int32.toNatClampNeg (1 : Int32)) (Int32.toInt64 (I a44 (Int32.toNatClampNeg x2)))
      if ¬ ((2 : Int32) < 0 ∨ lnx σ a31 ≤ Int32.toNatClampNeg (2 : Int32)) then
      let J50 := u2 J48 a31 (Int32.toNatClampNeg (2 : Int32)) (((2000 : Int64) - (J48 a31 (Int32.toNatClampNeg (0 : Int32)))) - (J48 a31 (Int32.toNatClampNeg (1 : Int32))))
      ((R t 0) : Option Nat).bind fun a51 =>
      if kdx σ a51 = 29 then
      if ¬ (x1 < 0 ∨ lnx σ a51 ≤ Int32.toNatClampNeg x1) then
      ((R a51 (Int32.toNatClampNeg x1)) : Option Nat).bind fun a54 =>
      if kdx σ a54 = 21 then
      if ¬ (x2 < 0 ∨ lnx σ a54 ≤ Int32.toNatClampNeg x2) then
      ((R t 5) : Option Nat).bind fun a57 =>
      ((R t 6) : Option Nat).bind fun a58 =>
      (fX11_shareOut σ J50 (J50 a54 (Int32.toNatClampNeg x2)) (some a31) (3 : Int32) (some a57) (some a58)).bind fun J59 =>
      if (4 : Int32) ≤ (x2 + (1 : Int32)) then
        ((R t 7) : Option Nat).bind fun a61 =>
        if kdx σ a61 = 21 then
        if ¬ (x2 < 0 ∨ lnx σ a61 ≤ Int32.toNatClampNeg x2) then
        if kdx σ a57 = 21 then
        if ¬ ((1 : Int32) < 0 ∨ lnx σ a57 ≤ Int32.toNatClampNeg (1 : Int32)) then
        let J66 := u2 J59 a61 (Int32.toNatClampNeg x2) ((J59 a61 (Int32.toNatClampNeg x2)) + (J59 a57 (Int32.toNatClampNeg (1 : Int32))))
        let v67 := x2 + (1 : Int32)
        fX5_dayOf_l50 σ I R t n J66 x1 v67
        else none
        else none
        else none
        else none
      else
        ((R t 7) : Option Nat).bind fun a68 =>
        if kdx σ a68 = 21 then
        if ¬ ((x2 + (1 : Int32)) < 0 ∨ lnx σ a68 ≤ Int32.toNatClampNeg (x2 + (1 : Int32))) then
        if kdx σ a57 = 21 then
        if ¬ ((0 : Int32) < 0 ∨ lnx σ a57 ≤ Int32.toNatClampNeg (0 : Int32)) then
        let J73 := u2 J59 a68 (Int32.toNatClampNeg (x2 + (1 : Int32))) ((J59 a68 (Int32.toNatClampNeg (x2 + (1 : Int32)))) + (J59 a57 (Int32.toNatClampNeg (0 : Int32))))
        if ¬ (x2 < 0 ∨ lnx σ a68 ≤ Int32.toNatClampNeg x2) then
        if ¬ ((1 : Int32) < 0 ∨ lnx σ a57 ≤ Int32.toNatClampNeg (1 : Int32)) then
        let J76 := u2 J73 a68 (Int32.toNatClampNeg x2) ((J73 a68 (Int32.toNatClampNeg x2)) + (J73 a57 (Int32.toNatClampNeg (1 : Int32))))
        let v77 := x2 + (1 : Int32)
        fX5_dayOf_l50 σ I R t n J76 x1 v77
        else none
        else none
        else none
        else none
        else none
        else none
      else none
      else none
      else none
      else none
      else none
      else none
      else none
      else none
      else none
      else none
      else none
      else none
      else none
      else none
      else none
      else none
      else none
theorem wX5_dayOf_l50 {G : Gx} {l : Launch} {σ : Shp} {I : Nat → Nat → Int32} {D : Nat → Nat → UInt64} {R : Nat → Nat → Option Nat} {t : Nat} {J9 : Nat → Nat → Int64} : ∀ (n : Nat) (J : Nat → Nat → Int64) (x1 : Int32) (x2 : Int32), fX5_dayOf_l50 σ I R t n J x1 x2 = some J9 → WX5_dayOf G l σ (σ, I, J9, D, R) none (σ, I, J, D, R) 50 [(0, vR (some t)), (1, vI x1), (2, vI x2)] [] := by
  intro n
  induction n with
  | zero =>
    intro J x1 x2 h
    have h : none = some _ := h
    cases h
  | succ n ih =>
    intro J x1 x2 h
    rw [fX5_dayOf_l50] at h
    refine r_iload_n (pc := 50) dX5_dayOf_50 rfl 2 rfl ?_
    refine r_iconst (pc := 51) dX5_dayOf_51 kc_iconst_4 ?_
    refine r_icmp_ge (pc := 52) (tgt := 177) dX5_dayOf_52 rfl (fun c => ?_) (fun c => ?_)
    · have h := it h c
      refine r_iconst (pc := 177) dX5_dayOf_177 kc_iconst_0 ?_
      refine r_istore_n (pc := 178) (L' := [(2, vI (0 : Int32)), (0, vR (some t)), (1, vI x1)]) dX5_dayOf_178 rfl (by decide) rfl ?_
      refine r_sub [1, 2, 0] rfl ?_
      exact wX5_dayOf_l179 _ _ _ _ h
    · have h := ie h c
      refine r_aload_n (pc := 55) dX5_dayOf_55 rfl 0 rfl ?_
      obtain ⟨g30, h⟩ := gd h
      obtain ⟨a31, ha31, h⟩ := ob h
      refine r_getS (pc := 56) dX5_dayOf_56 fgX5_25 rfl g30 ha31 ?_
      refine r_iconst (pc := 59) dX5_dayOf_59 kc_iconst_0 ?_
      refine r_aload_n (pc := 60) dX5_dayOf_60 rfl 0 rfl ?_
      obtain ⟨a32, ha32, h⟩ := ob h
      refine r_getS (pc := 61) dX5_dayOf_61 fgX5_16 rfl g30 ha32 ?_
      refine r_iload_n (pc := 64) dX5_dayOf_64 rfl 1 rfl ?_
      obtain ⟨g33, h⟩ := gd h
      obtain ⟨g34, h⟩ := gd h
      refine r_aaload (pc := 65) dX5_dayOf_65 g33 (by decide) g34 ?_
      obtain ⟨a35, ha35, h⟩ := ob h
      refine r_ref0 ha35 ?_
      refine r_iload_n (pc := 66) dX5_dayOf_66 rfl 2 rfl ?_
      obtain ⟨g36, h⟩ := gd h
      obtain ⟨g37, h⟩ := gd h
      refine r_iaload (pc := 67) dX5_dayOf_67 g36 g37 ?_
      refine r_i2l (pc := 68) dX5_dayOf_68 ?_
      obtain ⟨g38, h⟩ := gd h
      obtain ⟨g39, h⟩ := gd h
      refine r_lastore (pc := 69) dX5_dayOf_69 g38 g39 ?_
      refine r_aload_n (pc := 70) dX5_dayOf_70 rfl 0 rfl ?_
      refine r_getS (pc := 71) dX5_dayOf_71 fgX5_25 rfl g30 ha31 ?_
      refine r_iconst (pc := 74) dX5_dayOf_74 kc_iconst_1 ?_
      refine r_aload_n (pc := 75) dX5_dayOf_75 rfl 0 rfl ?_
      obtain ⟨a41, ha41, h⟩ := ob h
      refine r_getS (pc := 76) dX5_dayOf_76 fgX5_19 rfl g30 ha41 ?_
      refine r_iload_n (pc := 79) dX5_dayOf_79 rfl 1 rfl ?_
      obtain ⟨g42, h⟩ := gd h
      obtain ⟨g43, h⟩ := gd h
      refine r_aaload (pc := 80) dX5_dayOf_80 g42 (by decide) g43 ?_
      obtain ⟨a44, ha44, h⟩ := ob h
      refine r_ref0 ha44 ?_
      refine r_iload_n (pc := 81) dX5_dayOf_81 rfl 2 rfl ?_
      obtain ⟨g45, h⟩ := gd h
      obtain ⟨g46, h⟩ := gd h
      refine r_iaload (pc := 82) dX5_dayOf_82 g45 g46 ?_
      refine r_i2l (pc := 83) dX5_dayOf_83 ?_
      obtain ⟨g47, h⟩ := gd h
      refine r_lastore (pc := 84) dX5_dayOf_84 g38 g47 ?_
      refine r_aload_n (pc := 85) dX5_dayOf_85 rfl 0 rfl ?_
      refine r_getS (pc := 86) dX5_dayOf_86 fgX5_25 rfl g30 ha31 ?_
      refine r_iconst (pc := 89) dX5_dayOf_89 kc_iconst_2 ?_
      refine r_ldc2 (pc := 90) dX5_dayOf_90 clX5_53 ?_
      refine r_aload_n (pc := 93) dX5_dayOf_93 rfl 0 rfl ?_
      refine r_getS (pc := 94) dX5_dayOf_94 fgX5_25 rfl g30 ha31 ?_
      refine r_iconst (pc := 97) dX5_dayOf_97 kc_iconst_0 ?_
      refine r_laload (pc := 98) dX5_dayOf_98 g38 g39 ?_
      refine r_lsub (pc := 99) dX5_dayOf_99 ?_
      refine r_aload_n (pc := 100) dX5_dayOf_100 rfl 0 rfl ?_
      refine r_getS (pc := 101) dX5_dayOf_101 fgX5_25 rfl g30 ha31 ?_
      refine r_iconst (pc := 104) dX5_dayOf_104 kc_iconst_1 ?_
      refine r_laload (pc := 105) dX5_dayOf_105 g38 g47 ?_
      refine r_lsub (pc := 106) dX5_dayOf_106 ?_
      obtain ⟨g49, h⟩ := gd h
      refine r_lastore (pc := 107) dX5_dayOf_107 g38 g49 ?_
      refine r_aload_n (pc := 108) dX5_dayOf_108 rfl 0 rfl ?_
      obtain ⟨a51, ha51, h⟩ := ob h
      refine r_getS (pc := 109) dX5_dayOf_109 fgX5_11 rfl g30 ha51 ?_
      refine r_iload_n (pc := 112) dX5_dayOf_112 rfl 1 rfl ?_
      obtain ⟨g52, h⟩ := gd h
      obtain ⟨g53, h⟩ := gd h
      refine r_aaload (pc := 113) dX5_dayOf_113 g52 (by decide) g53 ?_
      obtain ⟨a54, ha54, h⟩ := ob h
      refine r_ref0 ha54 ?_
      refine r_iload_n (pc := 114) dX5_dayOf_114 rfl 2 rfl ?_
      obtain ⟨g55, h⟩ := gd h
      obtain ⟨g56, h⟩ := gd h
      refine r_laload (pc := 115) dX5_dayOf_115 g55 g56 ?_
      refine r_aload_n (pc := 116) dX5_dayOf_116 rfl 0 rfl ?_
      refine r_getS (pc := 117) dX5_dayOf_117 fgX5_25 rfl g30 ha31 ?_
      refine r_iconst (pc := 120) dX5_dayOf_120 kc_iconst_3 ?_
      refine r_aload_n (pc := 121) dX5_dayOf_121 rfl 0 rfl ?_
      obtain ⟨a57, ha57, h⟩ := ob h
      refine r_getS (pc := 122) dX5_dayOf_122 fgX5_29 rfl g30 ha57 ?_
      refine r_aload_n (pc := 125) dX5_dayOf_125 rfl 0 rfl ?_
      obtain ⟨a58, ha58, h⟩ := ob h
      refine r_getS (pc := 126) dX5_dayOf_126 fgX5_32 rfl g30 ha58 ?_
      obtain ⟨J59, hc60, h⟩ := ob h
      refine r_callSN0 (pc := 129) (av := [vL ((u2 (u2 (u2 J a31 (Int32.toNatClampNeg (0 : Int32)) (Int32.toInt64 (I a35 (Int32.toNatClampNeg x2)))) a31 (Int32.toNatClampNeg (1 : Int32)) (Int32.toInt64 (I a44 (Int32.toNatClampNeg x2)))) a31 (Int32.toNatClampNeg (2 : Int32)) (((2000 : Int64) - ((u2 (u2 J a31 (Int32.toNatClampNeg (0 : Int32)) (Int32.toInt64 (I a35 (Int32.toNatClampNeg x2)))) a31 (Int32.toNatClampNeg (1 : Int32)) (Int32.toInt64 (I a44 (Int32.toNatClampNeg x2)))) a31 (Int32.toNatClampNeg (0 : Int32)))) - ((u2 (u2 J a31 (Int32.toNatClampNeg (0 : Int32)) (Int32.toInt64 (I a35 (Int32.toNatClampNeg x2)))) a31 (Int32.toNatClampNeg (1 : Int32)) (Int32.toInt64 (I a44 (Int32.toNatClampNeg x2)))) a31 (Int32.toNatClampNeg (1 : Int32))))) a54 (Int32.toNatClampNeg x2)), vR (some a31), vI (3 : Int32), vR (some a57), vR (some a58)]) (S := []) dX5_dayOf_129 (kX11_shareOut hc60) nkX5_55 mwX11_shareOut rfl ⟨Nat.le_of_ble_eq_true rfl, Nat.le_of_ble_eq_true rfl⟩ (Nat.le_of_ble_eq_true rfl) ⟨Nat.le_refl _, Nat.le_refl _⟩ (fun b => b) ?_
      refine r_iload_n (pc := 132) dX5_dayOf_132 rfl 2 rfl ?_
      refine r_iconst (pc := 133) dX5_dayOf_133 kc_iconst_1 ?_
      refine r_iadd (pc := 134) dX5_dayOf_134 ?_
      refine r_iconst (pc := 135) dX5_dayOf_135 kc_iconst_4 ?_
      refine r_icmp_ge (pc := 136) (tgt := 156) dX5_dayOf_136 rfl (fun c => ?_) (fun c => ?_)
      · have h := it h c
        refine r_aload_n (pc := 156) dX5_dayOf_156 rfl 0 rfl ?_
        obtain ⟨a61, ha61, h⟩ := ob h
        refine r_getS (pc := 157) dX5_dayOf_157 fgX5_35 rfl g30 ha61 ?_
        refine r_iload_n (pc := 160) dX5_dayOf_160 rfl 2 rfl ?_
        refine r_dup2 (pc := 161) dX5_dayOf_161 rfl rfl ?_
        obtain ⟨g62, h⟩ := gd h
        obtain ⟨g63, h⟩ := gd h
        refine r_laload (pc := 162) dX5_dayOf_162 g62 g63 ?_
        refine r_aload_n (pc := 163) dX5_dayOf_163 rfl 0 rfl ?_
        refine r_getS (pc := 164) dX5_dayOf_164 fgX5_29 rfl g30 ha57 ?_
        refine r_iconst (pc := 167) dX5_dayOf_167 kc_iconst_1 ?_
        obtain ⟨g64, h⟩ := gd h
        obtain ⟨g65, h⟩ := gd h
        refine r_laload (pc := 168) dX5_dayOf_168 g64 g65 ?_
        refine r_ladd (pc := 169) dX5_dayOf_169 ?_
        refine r_lastore (pc := 170) dX5_dayOf_170 g62 g63 ?_
        refine r_iinc (pc := 171) (v := (x2 + (1 : Int32))) (L' := [(2, vI (x2 + (1 : Int32))), (0, vR (some t)), (1, vI x1)]) dX5_dayOf_171 2 rfl (kc_inc_1 _) (by decide) rfl ?_
        refine r_goto (pc := 174) (tgt := 50) dX5_dayOf_174 rfl ?_
        refine r_sub [1, 2, 0] rfl ?_
        exact ih _ _ _ h
      · have h := ie h c
        refine r_aload_n (pc := 139) dX5_dayOf_139 rfl 0 rfl ?_
        obtain ⟨a68, ha68, h⟩ := ob h
        refine r_getS (pc := 140) dX5_dayOf_140 fgX5_35 rfl g30 ha68 ?_
        refine r_iload_n (pc := 143) dX5_dayOf_143 rfl 2 rfl ?_
        refine r_iconst (pc := 144) dX5_dayOf_144 kc_iconst_1 ?_
        refine r_iadd (pc := 145) dX5_dayOf_145 ?_
        refine r_dup2 (pc := 146) dX5_dayOf_146 rfl rfl ?_
        obtain ⟨g69, h⟩ := gd h
        obtain ⟨g70, h⟩ := gd h
        refine r_laload (pc := 147) dX5_dayOf_147 g69 g70 ?_
        refine r_aload_n (pc := 148) dX5_dayOf_148 rfl 0 rfl ?_
        refine r_getS (pc := 149) dX5_dayOf_149 fgX5_29 rfl g30 ha57 ?_
        refine r_iconst (pc := 152) dX5_dayOf_152 kc_iconst_0 ?_
        obtain ⟨g71, h⟩ := gd h
        obtain ⟨g72, h⟩ := gd h
        refine r_laload (pc := 153) dX5_dayOf_153 g71 g72 ?_
        refine r_ladd (pc := 154) dX5_dayOf_154 ?_
        refine r_lastore (pc := 155) dX5_dayOf_155 g69 g70 ?_
        refine r_aload_n (pc := 156) dX5_dayOf_156 rfl 0 rfl ?_
        refine r_getS (pc := 157) dX5_dayOf_157 fgX5_35 rfl g30 ha68 ?_
        refine r_iload_n (pc := 160) dX5_dayOf_160 rfl 2 rfl ?_
        refine r_dup2 (pc := 161) dX5_dayOf_161 rfl rfl ?_
        obtain ⟨g74, h⟩ := gd h
        refine r_laload (pc := 162) dX5_dayOf_162 g69 g74 ?_
        refine r_aload_n (pc := 163) dX5_dayOf_163 rfl 0 rfl ?_
        refine r_getS (pc := 164) dX5_dayOf_164 fgX5_29 rfl g30 ha57 ?_
        refine r_iconst (pc := 167) dX5_dayOf_167 kc_iconst_1 ?_
        obtain ⟨g75, h⟩ := gd h
        refine r_laload (pc := 168) dX5_dayOf_168 g71 g75 ?_
        refine r_ladd (pc := 169) dX5_dayOf_169 ?_
        refine r_lastore (pc := 170) dX5_dayOf_170 g69 g74 ?_
        refine r_iinc (pc := 171) (v := (x2 + (1 : Int32))) (L' := [(2, vI (x2 + (1 : Int32))), (0, vR (some t)), (1, vI x1)]) dX5_dayOf_171 2 rfl (kc_inc_1 _) (by decide) rfl ?_
        refine r_goto (pc := 174) (tgt := 50) dX5_dayOf_174 rfl ?_
        refine r_sub [1, 2, 0] rfl ?_
        exact ih _ _ _ h
def fX5_dayOf_l30  (σ : Shp) (I : Nat → Nat → Int32) (R : Nat → Nat → Option Nat) (t : Nat) : Nat → (Nat → Nat → Int64) → (Int32) → (Int32) → Option ((Nat → Nat → Int64))
  | 0, _, _, _ => none
  | n + 1, J, x1, x2 =>
    if (4 : Int32) ≤ x2 then
      fX5_dayOf_l50 σ I R t FUx J x1 (0 : Int32)
    else
      if kdx σ t = 6 then
      ((R t 7) : Option Nat).bind fun a79 =>
      if kdx σ a79 = 21 then
      if ¬ (x2 < 0 ∨ lnx σ a79 ≤ Int32.toNatClampNeg x2) then
      let J82 := u2 J a79 (Int32.toNatClampNeg x2) (0 : Int64)
      let v83 := x2 + (1 : Int32)
      fX5_dayOf_l30 σ I R t n J82 x1 v83
      else none
      else none
      else none
theorem wX5_dayOf_l30 {G : Gx} {l : Launch} {σ : Shp} {I : Nat → Nat → Int32} {D : Nat → Nat → UInt64} {R : Nat → Nat → Option Nat} {t : Nat} {J9 : Nat → Nat → Int64} : ∀ (n : Nat) (J : Nat → Nat → Int64) (x1 : Int32) (x2 : Int32), fX5_dayOf_l30 σ I R t n J x1 x2 = some J9 → WX5_dayOf G l σ (σ, I, J9, D, R) none (σ, I, J, D, R) 30 [(0, vR (some t)), (1, vI x1), (2, vI x2)] [] := by
  intro n
  induction n with
  | zero =>
    intro J x1 x2 h
    have h : none = some _ := h
    cases h
  | succ n ih =>
    intro J x1 x2 h
    rw [fX5_dayOf_l30] at h
    refine r_iload_n (pc := 30) dX5_dayOf_30 rfl 2 rfl ?_
    refine r_iconst (pc := 31) dX5_dayOf_31 kc_iconst_4 ?_
    refine r_icmp_ge (pc := 32) (tgt := 48) dX5_dayOf_32 rfl (fun c => ?_) (fun c => ?_)
    · have h := it h c
      refine r_iconst (pc := 48) dX5_dayOf_48 kc_iconst_0 ?_
      refine r_istore_n (pc := 49) (L' := [(2, vI (0 : Int32)), (0, vR (some t)), (1, vI x1)]) dX5_dayOf_49 rfl (by decide) rfl ?_
      refine r_sub [1, 2, 0] rfl ?_
      exact wX5_dayOf_l50 _ _ _ _ h
    · have h := ie h c
      refine r_aload_n (pc := 35) dX5_dayOf_35 rfl 0 rfl ?_
      obtain ⟨g78, h⟩ := gd h
      obtain ⟨a79, ha79, h⟩ := ob h
      refine r_getS (pc := 36) dX5_dayOf_36 fgX5_35 rfl g78 ha79 ?_
      refine r_iload_n (pc := 39) dX5_dayOf_39 rfl 2 rfl ?_
      refine r_lconst (pc := 40) dX5_dayOf_40 kc_lconst_0 ?_
      obtain ⟨g80, h⟩ := gd h
      obtain ⟨g81, h⟩ := gd h
      refine r_lastore (pc := 41) dX5_dayOf_41 g80 g81 ?_
      refine r_iinc (pc := 42) (v := (x2 + (1 : Int32))) (L' := [(2, vI (x2 + (1 : Int32))), (0, vR (some t)), (1, vI x1)]) dX5_dayOf_42 2 rfl (kc_inc_1 _) (by decide) rfl ?_
      refine r_goto (pc := 45) (tgt := 30) dX5_dayOf_45 rfl ?_
      refine r_sub [1, 2, 0] rfl ?_
      exact ih _ _ _ h
def fX5_dayOf (σ : Shp) (I : Nat → Nat → Int32) (J : Nat → Nat → Int64) (R : Nat → Nat → Option Nat) (t : Nat) (x1 : Int32) : Option ((Nat → Nat → Int64)) :=
  if kdx σ t = 6 then
  ((R t 7) : Option Nat).bind fun a2 =>
  ((R t 0) : Option Nat).bind fun a3 =>
  if kdx σ a3 = 29 then
  if ¬ (x1 < 0 ∨ lnx σ a3 ≤ Int32.toNatClampNeg x1) then
  ((R a3 (Int32.toNatClampNeg x1)) : Option Nat).bind fun a6 =>
  if kdx σ a6 = 21 then
  if ¬ ((3 : Int32) < 0 ∨ lnx σ a6 ≤ Int32.toNatClampNeg (3 : Int32)) then
  ((R t 3) : Option Nat).bind fun a9 =>
  if kdx σ a9 = 28 then
  if ¬ (x1 < 0 ∨ lnx σ a9 ≤ Int32.toNatClampNeg x1) then
  ((R a9 (Int32.toNatClampNeg x1)) : Option Nat).bind fun a12 =>
  if kdx σ a12 = 20 then
  if ¬ ((3 : Int32) < 0 ∨ lnx σ a12 ≤ Int32.toNatClampNeg (3 : Int32)) then
  if kdx σ a2 = 21 then
  if ¬ ((0 : Int32) < 0 ∨ lnx σ a2 ≤ Int32.toNatClampNeg (0 : Int32)) then
  let J17 := u2 J a2 (Int32.toNatClampNeg (0 : Int32)) (((J a6 (Int32.toNatClampNeg (3 : Int32))) * (Int32.toInt64 (I a12 (Int32.toNatClampNeg (3 : Int32))))) / (100 : Int64))
  fX5_dayOf_l30 σ I R t FUx J17 x1 (1 : Int32)
  else none
  else none
  else none
  else none
  else none
  else none
  else none
  else none
  else none
  else none
  else none
theorem kX5_dayOf {G : Gx} {l : Launch} {σ : Shp} {I : Nat → Nat → Int32} {J : Nat → Nat → Int64} {D : Nat → Nat → UInt64} {R : Nat → Nat → Option Nat} {t : Nat} {x1 : Int32} {J9 : Nat → Nat → Int64} (h : fX5_dayOf σ I J R t x1 = some J9) : Con G l yX5_dayOf cX5_dayOf 3 none 1 32 [vR (some t), vI x1] (σ, I, J, D, R) (σ, I, J9, D, R) none := by
  unfold fX5_dayOf at h
  refine Con.mk (by decide +kernel) rfl (Nat.le_of_ble_eq_true rfl) ?_
  show WX5_dayOf G l σ (σ, I, J9, D, R) none (σ, I, J, D, R) 0 _ []
  refine r_aload_n (pc := 0) dX5_dayOf_0 rfl 0 rfl ?_
  obtain ⟨g1, h⟩ := gd h
  obtain ⟨a2, ha2, h⟩ := ob h
  refine r_getS (pc := 1) dX5_dayOf_1 fgX5_35 rfl g1 ha2 ?_
  refine r_iconst (pc := 4) dX5_dayOf_4 kc_iconst_0 ?_
  refine r_aload_n (pc := 5) dX5_dayOf_5 rfl 0 rfl ?_
  obtain ⟨a3, ha3, h⟩ := ob h
  refine r_getS (pc := 6) dX5_dayOf_6 fgX5_11 rfl g1 ha3 ?_
  refine r_iload_n (pc := 9) dX5_dayOf_9 rfl 1 rfl ?_
  obtain ⟨g4, h⟩ := gd h
  obtain ⟨g5, h⟩ := gd h
  refine r_aaload (pc := 10) dX5_dayOf_10 g4 (by decide) g5 ?_
  obtain ⟨a6, ha6, h⟩ := ob h
  refine r_ref0 ha6 ?_
  refine r_iconst (pc := 11) dX5_dayOf_11 kc_iconst_3 ?_
  obtain ⟨g7, h⟩ := gd h
  obtain ⟨g8, h⟩ := gd h
  refine r_laload (pc := 12) dX5_dayOf_12 g7 g8 ?_
  refine r_aload_n (pc := 13) dX5_dayOf_13 rfl 0 rfl ?_
  obtain ⟨a9, ha9, h⟩ := ob h
  refine r_getS (pc := 14) dX5_dayOf_14 fgX5_22 rfl g1 ha9 ?_
  refine r_iload_n (pc := 17) dX5_dayOf_17 rfl 1 rfl ?_
  obtain ⟨g10, h⟩ := gd h
  obtain ⟨g11, h⟩ := gd h
  refine r_aaload (pc := 18) dX5_dayOf_18 g10 (by decide) g11 ?_
  obtain ⟨a12, ha12, h⟩ := ob h
  refine r_ref0 ha12 ?_
  refine r_iconst (pc := 19) dX5_dayOf_19 kc_iconst_3 ?_
  obtain ⟨g13, h⟩ := gd h
  obtain ⟨g14, h⟩ := gd h
  refine r_iaload (pc := 20) dX5_dayOf_20 g13 g14 ?_
  refine r_i2l (pc := 21) dX5_dayOf_21 ?_
  refine r_lmul (pc := 22) dX5_dayOf_22 ?_
  refine r_ldc2 (pc := 23) dX5_dayOf_23 clX5_51 ?_
  refine r_ldiv (pc := 26) dX5_dayOf_26 (by decide) ?_
  obtain ⟨g15, h⟩ := gd h
  obtain ⟨g16, h⟩ := gd h
  refine r_lastore (pc := 27) dX5_dayOf_27 g15 g16 ?_
  refine r_iconst (pc := 28) dX5_dayOf_28 kc_iconst_1 ?_
  refine r_istore_n (pc := 29) (L' := [(2, vI (1 : Int32)), (0, vR (some t)), (1, vI x1)]) dX5_dayOf_29 rfl (by decide) rfl ?_
  refine r_sub [1, 2, 0] rfl ?_
  exact wX5_dayOf_l30 _ _ _ _ h
abbrev WX5_passDay (G : Gx) (l : Launch) (σ0 : Shp) (X1 : Stt) (rv : Option SV) : Stt → Nat → List (Nat × SV) → List SV → Prop := Wm G l yX5_passDay cX5_passDay 2 none (fun _ => True) (rmx 2 54 σ0 X1.1) σ0 (Qmx G σ0 X1 rv)
def fX5_passDay_l2  (σ : Shp) (R : Nat → Nat → Option Nat) (t : Nat) : Nat → (Nat → Nat → Int32) → (Nat → Nat → Int64) → (Int32) → Option ((Nat → Nat → Int32) × (Nat → Nat → Int64))
  | 0, _, _, _ => none
  | n + 1, I, J, x1 =>
    if (2 : Int32) ≤ x1 then
      if kdx σ t = 6 then
      let I2 := u2 I t 8 ((I t 8) + (1 : Int32))
      if (I2 t 9) ≤ 0 then
        some (I2, J)
      else
        let I3 := u2 I2 t 9 ((I2 t 9) - (1 : Int32))
        some (I3, J)
      else none
    else
      if kdx σ t = 6 then
      (fX5_dayOf σ I J R t x1).bind fun J5 =>
      let v7 := x1 + (1 : Int32)
      fX5_passDay_l2 σ R t n I J5 v7
      else none
theorem wX5_passDay_l2 {G : Gx} {l : Launch} {σ : Shp} {D : Nat → Nat → UInt64} {R : Nat → Nat → Option Nat} {t : Nat} {I9 : Nat → Nat → Int32} {J9 : Nat → Nat → Int64} : ∀ (n : Nat) (I : Nat → Nat → Int32) (J : Nat → Nat → Int64) (x1 : Int32), fX5_passDay_l2 σ R t n I J x1 = some (I9, J9) → WX5_passDay G l σ (σ, I9, J9, D, R) none (σ, I, J, D, R) 2 [(0, vR (some t)), (1, vI x1)] [] := by
  intro n
  induction n with
  | zero =>
    intro I J x1 h
    have h : none = some _ := h
    cases h
  | succ n ih =>
    intro I J x1 h
    rw [fX5_passDay_l2] at h
    refine r_iload_n (pc := 2) dX5_passDay_2 rfl 1 rfl ?_
    refine r_iconst (pc := 3) dX5_passDay_3 kc_iconst_2 ?_
    refine r_icmp_ge (pc := 4) (tgt := 18) dX5_passDay_4 rfl (fun c => ?_) (fun c => ?_)
    · have h := it h c
      refine r_aload_n (pc := 18) dX5_passDay_18 rfl 0 rfl ?_
      refine r_dup (pc := 19) dX5_passDay_19 rfl ?_
      obtain ⟨g1, h⟩ := gd h
      refine r_getI (pc := 20) dX5_passDay_20 fgX5_48 rfl g1 ?_
      refine r_iconst (pc := 23) dX5_passDay_23 kc_iconst_1 ?_
      refine r_iadd (pc := 24) dX5_passDay_24 ?_
      refine r_putI (pc := 25) dX5_passDay_25 fwX5_48 rfl g1 ?_
      refine r_aload_n (pc := 28) dX5_passDay_28 rfl 0 rfl ?_
      refine r_getI (pc := 29) dX5_passDay_29 fgX5_40 rfl g1 ?_
      refine r_if_le (pc := 32) (tgt := 45) dX5_passDay_32 rfl (fun c => ?_) (fun c => ?_)
      · have h := it h c
        cases h
        exact r_vret dX5_passDay_45
      · have h := ie h c
        refine r_aload_n (pc := 35) dX5_passDay_35 rfl 0 rfl ?_
        refine r_dup (pc := 36) dX5_passDay_36 rfl ?_
        refine r_getI (pc := 37) dX5_passDay_37 fgX5_40 rfl g1 ?_
        refine r_iconst (pc := 40) dX5_passDay_40 kc_iconst_1 ?_
        refine r_isub (pc := 41) dX5_passDay_41 ?_
        refine r_putI (pc := 42) dX5_passDay_42 fwX5_40 rfl g1 ?_
        cases h
        exact r_vret dX5_passDay_45
    · have h := ie h c
      refine r_aload_n (pc := 7) dX5_passDay_7 rfl 0 rfl ?_
      refine r_iload_n (pc := 8) dX5_passDay_8 rfl 1 rfl ?_
      obtain ⟨g4, h⟩ := gd h
      obtain ⟨J5, hc6, h⟩ := ob h
      refine r_callV0 (pc := 9) (av := [vI x1]) (S := []) dX5_passDay_9 (kX5_dayOf hc6) g4 rfl mkX5_44 mwX5_dayOf rfl ⟨Nat.le_of_ble_eq_true rfl, Nat.le_of_ble_eq_true rfl⟩ (Nat.le_of_ble_eq_true rfl) ⟨Nat.le_refl _, Nat.le_refl _⟩ (fun b => b) ?_
      refine r_iinc (pc := 12) (v := (x1 + (1 : Int32))) (L' := [(1, vI (x1 + (1 : Int32))), (0, vR (some t))]) dX5_passDay_12 1 rfl (kc_inc_1 _) (by decide) rfl ?_
      refine r_goto (pc := 15) (tgt := 2) dX5_passDay_15 rfl ?_
      refine r_sub [1, 0] rfl ?_
      exact ih _ _ _ h
def fX5_passDay (σ : Shp) (I : Nat → Nat → Int32) (J : Nat → Nat → Int64) (R : Nat → Nat → Option Nat) (t : Nat)  : Option ((Nat → Nat → Int32) × (Nat → Nat → Int64)) :=
  fX5_passDay_l2 σ R t FUx I J (0 : Int32)
theorem kX5_passDay {G : Gx} {l : Launch} {σ : Shp} {I : Nat → Nat → Int32} {J : Nat → Nat → Int64} {D : Nat → Nat → UInt64} {R : Nat → Nat → Option Nat} {t : Nat}  {I9 : Nat → Nat → Int32} {J9 : Nat → Nat → Int64} (h : fX5_passDay σ I J R t = some (I9, J9)) : Con G l yX5_passDay cX5_passDay 2 none 2 54 [vR (some t)] (σ, I, J, D, R) (σ, I9, J9, D, R) none := by
  unfold fX5_passDay at h
  refine Con.mk (by decide +kernel) rfl (Nat.le_of_ble_eq_true rfl) ?_
  show WX5_passDay G l σ (σ, I9, J9, D, R) none (σ, I, J, D, R) 0 _ []
  refine r_iconst (pc := 0) dX5_passDay_0 kc_iconst_0 ?_
  refine r_istore_n (pc := 1) (L' := [(1, vI (0 : Int32)), (0, vR (some t))]) dX5_passDay_1 rfl (by decide) rfl ?_
  refine r_sub [1, 0] rfl ?_
  exact wX5_passDay_l2 _ _ _ _ h
abbrev WX6_init (G : Gx) (l : Launch) (σ0 : Shp) (X1 : Stt) (rv : Option SV) : Stt → Nat → List (Nat × SV) → List SV → Prop := Wm G l yX6_init cX6_init 1 none (fun _ => True) (rmx 1 20 σ0 X1.1) σ0 (Qmx G σ0 X1 rv)
def fX6_init_b61  (σ : Shp) (R : Nat → Nat → Option Nat) (s0 : Nat) (s1 : Nat) : Option ((Shp) × (Nat → Nat → Option Nat)) :=
  if kdx σ s0 = 7 then
  let R21 := u2 R s0 6 (some s1)
  some (σ, R21)
  else none
theorem mX6_init_b61 {σ : Shp} {R : Nat → Nat → Option Nat} {σ9 : Shp} {R9 : Nat → Nat → Option Nat} {s0 : Nat} {s1 : Nat} (h : fX6_init_b61 σ R s0 s1 = some (σ9, R9)) : Lex σ σ9 := by
  unfold fX6_init_b61 at h
  replace h := (gd h).2
  cases h
  exact ⟨Nat.le_refl _, Nat.le_refl _⟩
theorem wX6_init_b61 {G : Gx} {l : Launch} {σ0 : Shp} {σ : Shp} {I : Nat → Nat → Int32} {J : Nat → Nat → Int64} {D : Nat → Nat → UInt64} {R : Nat → Nat → Option Nat} {σ9 : Shp} {R9 : Nat → Nat → Option Nat} {s0 : Nat} {s1 : Nat} (h : fX6_init_b61 σ R s0 s1 = some (σ9, R9)) : WX6_init G l σ0 (σ9, I, J, D, R9) none (σ, I, J, D, R) 61 [] [vR (some s1), vR (some s0)] := by
  unfold fX6_init_b61 at h
  obtain ⟨g20, h⟩ := gd h
  refine r_putRF (pc := 61) dX6_init_61 fwX6_30 rfl rfl g20 ?_
  cases h
  exact r_vret dX6_init_64
def fX6_init_b53  (t : Nat) (σ : Shp) (R : Nat → Nat → Option Nat) (s0 : Nat) (s1 : Nat) : Option ((Shp) × (Nat → Nat → Option Nat)) :=
  if kdx σ s0 = 7 then
  let R18 := u2 R s0 5 (some s1)
  let σ19 := mkA σ 20 (Int32.toNatClampNeg (40 : Int32))
  fX6_init_b61 σ19 R18 t (nxx σ + 4)
  else none
theorem mX6_init_b53 {σ : Shp} {R : Nat → Nat → Option Nat} {t : Nat} {σ9 : Shp} {R9 : Nat → Nat → Option Nat} {s0 : Nat} {s1 : Nat} (h : fX6_init_b53 t σ R s0 s1 = some (σ9, R9)) : Lex σ σ9 := by
  unfold fX6_init_b53 at h
  replace h := (gd h).2
  exact Lex_mkA (mX6_init_b61 h)
theorem wX6_init_b53 {G : Gx} {l : Launch} {σ0 : Shp} {σ : Shp} {I : Nat → Nat → Int32} {J : Nat → Nat → Int64} {D : Nat → Nat → UInt64} {R : Nat → Nat → Option Nat} {t : Nat} {σ9 : Shp} {R9 : Nat → Nat → Option Nat} {s0 : Nat} {s1 : Nat} (h : fX6_init_b53 t σ R s0 s1 = some (σ9, R9)) : WX6_init G l σ0 (σ9, I, J, D, R9) none (σ, I, J, D, R) 53 [(0, vR (some t))] [vR (some s1), vR (some s0)] := by
  unfold fX6_init_b53 at h
  obtain ⟨g17, h⟩ := gd h
  refine r_putRF (pc := 53) dX6_init_53 fwX6_27 rfl rfl g17 ?_
  refine r_aload_n (pc := 56) dX6_init_56 rfl 0 rfl ?_
  refine r_bipush (pc := 57) dX6_init_57 kc_bipush_40 ?_
  refine r_newa (pc := 59) (t := 20) (ti := 0) (ty := .int) dX6_init_59 rfl (by decide) ac20 (by decide) (by decide) (Nat.sub_le_sub_right (mX6_init_b61 h).1 _) (Nat.sub_le_sub_right (mX6_init_b61 h).2 _) ?_
  refine r_sub [] rfl ?_
  exact wX6_init_b61 h
def fX6_init_b44  (t : Nat) (σ : Shp) (R : Nat → Nat → Option Nat) (s0 : Nat) (s1 : Nat) : Option ((Shp) × (Nat → Nat → Option Nat)) :=
  if kdx σ s0 = 7 then
  let R15 := u2 R s0 4 (some s1)
  let σ16 := mkA σ 20 (Int32.toNatClampNeg (160 : Int32))
  fX6_init_b53 t σ16 R15 t (nxx σ + 4)
  else none
theorem mX6_init_b44 {σ : Shp} {R : Nat → Nat → Option Nat} {t : Nat} {σ9 : Shp} {R9 : Nat → Nat → Option Nat} {s0 : Nat} {s1 : Nat} (h : fX6_init_b44 t σ R s0 s1 = some (σ9, R9)) : Lex σ σ9 := by
  unfold fX6_init_b44 at h
  replace h := (gd h).2
  exact Lex_mkA (mX6_init_b53 h)
theorem wX6_init_b44 {G : Gx} {l : Launch} {σ0 : Shp} {σ : Shp} {I : Nat → Nat → Int32} {J : Nat → Nat → Int64} {D : Nat → Nat → UInt64} {R : Nat → Nat → Option Nat} {t : Nat} {σ9 : Shp} {R9 : Nat → Nat → Option Nat} {s0 : Nat} {s1 : Nat} (h : fX6_init_b44 t σ R s0 s1 = some (σ9, R9)) : WX6_init G l σ0 (σ9, I, J, D, R9) none (σ, I, J, D, R) 44 [(0, vR (some t))] [vR (some s1), vR (some s0)] := by
  unfold fX6_init_b44 at h
  obtain ⟨g14, h⟩ := gd h
  refine r_putRF (pc := 44) dX6_init_44 fwX6_24 rfl rfl g14 ?_
  refine r_aload_n (pc := 47) dX6_init_47 rfl 0 rfl ?_
  refine r_sipush (pc := 48) dX6_init_48 kc_sipush_160 ?_
  refine r_newa (pc := 51) (t := 20) (ti := 0) (ty := .int) dX6_init_51 rfl (by decide) ac20 (by decide) (by decide) (Nat.sub_le_sub_right (mX6_init_b53 h).1 _) (Nat.sub_le_sub_right (mX6_init_b53 h).2 _) ?_
  refine r_sub [0] rfl ?_
  exact wX6_init_b53 h
def fX6_init_b35  (t : Nat) (σ : Shp) (R : Nat → Nat → Option Nat) (s0 : Nat) (s1 : Nat) : Option ((Shp) × (Nat → Nat → Option Nat)) :=
  if kdx σ s0 = 7 then
  let R12 := u2 R s0 3 (some s1)
  let σ13 := mkA σ 20 (Int32.toNatClampNeg (160 : Int32))
  fX6_init_b44 t σ13 R12 t (nxx σ + 4)
  else none
theorem mX6_init_b35 {σ : Shp} {R : Nat → Nat → Option Nat} {t : Nat} {σ9 : Shp} {R9 : Nat → Nat → Option Nat} {s0 : Nat} {s1 : Nat} (h : fX6_init_b35 t σ R s0 s1 = some (σ9, R9)) : Lex σ σ9 := by
  unfold fX6_init_b35 at h
  replace h := (gd h).2
  exact Lex_mkA (mX6_init_b44 h)
theorem wX6_init_b35 {G : Gx} {l : Launch} {σ0 : Shp} {σ : Shp} {I : Nat → Nat → Int32} {J : Nat → Nat → Int64} {D : Nat → Nat → UInt64} {R : Nat → Nat → Option Nat} {t : Nat} {σ9 : Shp} {R9 : Nat → Nat → Option Nat} {s0 : Nat} {s1 : Nat} (h : fX6_init_b35 t σ R s0 s1 = some (σ9, R9)) : WX6_init G l σ0 (σ9, I, J, D, R9) none (σ, I, J, D, R) 35 [(0, vR (some t))] [vR (some s1), vR (some s0)] := by
  unfold fX6_init_b35 at h
  obtain ⟨g11, h⟩ := gd h
  refine r_putRF (pc := 35) dX6_init_35 fwX6_21 rfl rfl g11 ?_
  refine r_aload_n (pc := 38) dX6_init_38 rfl 0 rfl ?_
  refine r_sipush (pc := 39) dX6_init_39 kc_sipush_160 ?_
  refine r_newa (pc := 42) (t := 20) (ti := 0) (ty := .int) dX6_init_42 rfl (by decide) ac20 (by decide) (by decide) (Nat.sub_le_sub_right (mX6_init_b44 h).1 _) (Nat.sub_le_sub_right (mX6_init_b44 h).2 _) ?_
  refine r_sub [0] rfl ?_
  exact wX6_init_b44 h
def fX6_init_b26  (t : Nat) (σ : Shp) (R : Nat → Nat → Option Nat) (s0 : Nat) (s1 : Nat) : Option ((Shp) × (Nat → Nat → Option Nat)) :=
  if kdx σ s0 = 7 then
  let R9 := u2 R s0 2 (some s1)
  let σ10 := mkA σ 20 (Int32.toNatClampNeg (160 : Int32))
  fX6_init_b35 t σ10 R9 t (nxx σ + 4)
  else none
theorem mX6_init_b26 {σ : Shp} {R : Nat → Nat → Option Nat} {t : Nat} {σ9 : Shp} {R9 : Nat → Nat → Option Nat} {s0 : Nat} {s1 : Nat} (h : fX6_init_b26 t σ R s0 s1 = some (σ9, R9)) : Lex σ σ9 := by
  unfold fX6_init_b26 at h
  replace h := (gd h).2
  exact Lex_mkA (mX6_init_b35 h)
theorem wX6_init_b26 {G : Gx} {l : Launch} {σ0 : Shp} {σ : Shp} {I : Nat → Nat → Int32} {J : Nat → Nat → Int64} {D : Nat → Nat → UInt64} {R : Nat → Nat → Option Nat} {t : Nat} {σ9 : Shp} {R9 : Nat → Nat → Option Nat} {s0 : Nat} {s1 : Nat} (h : fX6_init_b26 t σ R s0 s1 = some (σ9, R9)) : WX6_init G l σ0 (σ9, I, J, D, R9) none (σ, I, J, D, R) 26 [(0, vR (some t))] [vR (some s1), vR (some s0)] := by
  unfold fX6_init_b26 at h
  obtain ⟨g8, h⟩ := gd h
  refine r_putRF (pc := 26) dX6_init_26 fwX6_18 rfl rfl g8 ?_
  refine r_aload_n (pc := 29) dX6_init_29 rfl 0 rfl ?_
  refine r_sipush (pc := 30) dX6_init_30 kc_sipush_160 ?_
  refine r_newa (pc := 33) (t := 20) (ti := 0) (ty := .int) dX6_init_33 rfl (by decide) ac20 (by decide) (by decide) (Nat.sub_le_sub_right (mX6_init_b35 h).1 _) (Nat.sub_le_sub_right (mX6_init_b35 h).2 _) ?_
  refine r_sub [0] rfl ?_
  exact wX6_init_b35 h
def fX6_init_b17  (t : Nat) (σ : Shp) (R : Nat → Nat → Option Nat) (s0 : Nat) (s1 : Nat) : Option ((Shp) × (Nat → Nat → Option Nat)) :=
  if kdx σ s0 = 7 then
  let R6 := u2 R s0 1 (some s1)
  let σ7 := mkA σ 20 (Int32.toNatClampNeg (160 : Int32))
  fX6_init_b26 t σ7 R6 t (nxx σ + 4)
  else none
theorem mX6_init_b17 {σ : Shp} {R : Nat → Nat → Option Nat} {t : Nat} {σ9 : Shp} {R9 : Nat → Nat → Option Nat} {s0 : Nat} {s1 : Nat} (h : fX6_init_b17 t σ R s0 s1 = some (σ9, R9)) : Lex σ σ9 := by
  unfold fX6_init_b17 at h
  replace h := (gd h).2
  exact Lex_mkA (mX6_init_b26 h)
theorem wX6_init_b17 {G : Gx} {l : Launch} {σ0 : Shp} {σ : Shp} {I : Nat → Nat → Int32} {J : Nat → Nat → Int64} {D : Nat → Nat → UInt64} {R : Nat → Nat → Option Nat} {t : Nat} {σ9 : Shp} {R9 : Nat → Nat → Option Nat} {s0 : Nat} {s1 : Nat} (h : fX6_init_b17 t σ R s0 s1 = some (σ9, R9)) : WX6_init G l σ0 (σ9, I, J, D, R9) none (σ, I, J, D, R) 17 [(0, vR (some t))] [vR (some s1), vR (some s0)] := by
  unfold fX6_init_b17 at h
  obtain ⟨g5, h⟩ := gd h
  refine r_putRF (pc := 17) dX6_init_17 fwX6_15 rfl rfl g5 ?_
  refine r_aload_n (pc := 20) dX6_init_20 rfl 0 rfl ?_
  refine r_sipush (pc := 21) dX6_init_21 kc_sipush_160 ?_
  refine r_newa (pc := 24) (t := 20) (ti := 0) (ty := .int) dX6_init_24 rfl (by decide) ac20 (by decide) (by decide) (Nat.sub_le_sub_right (mX6_init_b26 h).1 _) (Nat.sub_le_sub_right (mX6_init_b26 h).2 _) ?_
  refine r_sub [0] rfl ?_
  exact wX6_init_b26 h
def fX6_init_b8  (t : Nat) (σ : Shp) (R : Nat → Nat → Option Nat) (s0 : Nat) (s1 : Nat) : Option ((Shp) × (Nat → Nat → Option Nat)) :=
  if kdx σ s0 = 7 then
  let R3 := u2 R s0 0 (some s1)
  let σ4 := mkA σ 20 (Int32.toNatClampNeg (160 : Int32))
  fX6_init_b17 t σ4 R3 t (nxx σ + 4)
  else none
theorem mX6_init_b8 {σ : Shp} {R : Nat → Nat → Option Nat} {t : Nat} {σ9 : Shp} {R9 : Nat → Nat → Option Nat} {s0 : Nat} {s1 : Nat} (h : fX6_init_b8 t σ R s0 s1 = some (σ9, R9)) : Lex σ σ9 := by
  unfold fX6_init_b8 at h
  replace h := (gd h).2
  exact Lex_mkA (mX6_init_b17 h)
theorem wX6_init_b8 {G : Gx} {l : Launch} {σ0 : Shp} {σ : Shp} {I : Nat → Nat → Int32} {J : Nat → Nat → Int64} {D : Nat → Nat → UInt64} {R : Nat → Nat → Option Nat} {t : Nat} {σ9 : Shp} {R9 : Nat → Nat → Option Nat} {s0 : Nat} {s1 : Nat} (h : fX6_init_b8 t σ R s0 s1 = some (σ9, R9)) : WX6_init G l σ0 (σ9, I, J, D, R9) none (σ, I, J, D, R) 8 [(0, vR (some t))] [vR (some s1), vR (some s0)] := by
  unfold fX6_init_b8 at h
  obtain ⟨g2, h⟩ := gd h
  refine r_putRF (pc := 8) dX6_init_8 fwX6_11 rfl rfl g2 ?_
  refine r_aload_n (pc := 11) dX6_init_11 rfl 0 rfl ?_
  refine r_sipush (pc := 12) dX6_init_12 kc_sipush_160 ?_
  refine r_newa (pc := 15) (t := 20) (ti := 0) (ty := .int) dX6_init_15 rfl (by decide) ac20 (by decide) (by decide) (Nat.sub_le_sub_right (mX6_init_b17 h).1 _) (Nat.sub_le_sub_right (mX6_init_b17 h).2 _) ?_
  refine r_sub [0] rfl ?_
  exact wX6_init_b17 h
def fX6_init (σ : Shp) (R : Nat → Nat → Option Nat) (t : Nat)  : Option ((Shp) × (Nat → Nat → Option Nat)) :=
  let σ1 := mkA σ 20 (Int32.toNatClampNeg (4 : Int32))
  fX6_init_b8 t σ1 R t (nxx σ + 4)
theorem mX6_init {σ : Shp} {R : Nat → Nat → Option Nat} {t : Nat}  {σ9 : Shp} {R9 : Nat → Nat → Option Nat} (h : fX6_init σ R t = some (σ9, R9)) : Lex σ σ9 := by
  unfold fX6_init at h
  exact Lex_mkA (mX6_init_b8 h)
theorem kX6_init {G : Gx} {l : Launch} {σ : Shp} {I : Nat → Nat → Int32} {J : Nat → Nat → Int64} {D : Nat → Nat → UInt64} {R : Nat → Nat → Option Nat} {t : Nat}  {σ9 : Shp} {R9 : Nat → Nat → Option Nat} (h : fX6_init σ R t = some (σ9, R9)) : Con G l yX6_init cX6_init 1 none 1 20 [vR (some t)] (σ, I, J, D, R) (σ9, I, J, D, R9) none := by
  unfold fX6_init at h
  refine Con.mk (by decide +kernel) rfl (Nat.le_of_ble_eq_true rfl) ?_
  show WX6_init G l σ (σ9, I, J, D, R9) none (σ, I, J, D, R) 0 _ []
  refine r_aload_n (pc := 0) dX6_init_0 rfl 0 rfl ?_
  refine r_objInit (pc := 1) (S := []) dX6_init_1 obX6_3 obI obC (Nat.le_of_ble_eq_true rfl) (Nat.le_of_ble_eq_true rfl) (Nat.le_of_ble_eq_true rfl) ?_
  refine r_aload_n (pc := 4) dX6_init_4 rfl 0 rfl ?_
  refine r_iconst (pc := 5) dX6_init_5 kc_iconst_4 ?_
  refine r_newa (pc := 6) (t := 20) (ti := 0) (ty := .int) dX6_init_6 rfl (by decide) ac20 (by decide) (by decide) (Nat.sub_le_sub_right (mX6_init_b8 h).1 _) (Nat.sub_le_sub_right (mX6_init_b8 h).2 _) ?_
  refine r_sub [0] rfl ?_
  exact wX6_init_b8 h
abbrev WX6_added (G : Gx) (l : Launch) (σ0 : Shp) (X1 : Stt) (rv : Option SV) : Stt → Nat → List (Nat × SV) → List SV → Prop := Wm G l yX6_added cX6_added 8 (some .int) (fun _ => True) (rmx 0 0 σ0 X1.1) σ0 (Qmx G σ0 X1 rv)
def fX6_added (σ : Shp) (I : Nat → Nat → Int32) (R : Nat → Nat → Option Nat) (t : Nat) (x1 : Int32) (x2 : Int32) (x3 : Int32) (x4 : Int32) (x5 : Int32) : Option ((Nat → Nat → Int32) × (Int32)) :=
  if kdx σ t = 7 then
  ((R t 0) : Option Nat).bind fun a2 =>
  if kdx σ a2 = 20 then
  if ¬ (x1 < 0 ∨ lnx σ a2 ≤ Int32.toNatClampNeg x1) then
  let v5 := (I a2 (Int32.toNatClampNeg x1))
  if v5 < (40 : Int32) then
    let v6 := ((x1 * (40 : Int32)) + v5)
    ((R t 1) : Option Nat).bind fun a7 =>
    if kdx σ a7 = 20 then
    if ¬ (v6 < 0 ∨ lnx σ a7 ≤ Int32.toNatClampNeg v6) then
    let I10 := u2 I a7 (Int32.toNatClampNeg v6) x2
    ((R t 2) : Option Nat).bind fun a11 =>
    if kdx σ a11 = 20 then
    if ¬ (v6 < 0 ∨ lnx σ a11 ≤ Int32.toNatClampNeg v6) then
    let I14 := u2 I10 a11 (Int32.toNatClampNeg v6) x3
    ((R t 3) : Option Nat).bind fun a15 =>
    if kdx σ a15 = 20 then
    if ¬ (v6 < 0 ∨ lnx σ a15 ≤ Int32.toNatClampNeg v6) then
    let I18 := u2 I14 a15 (Int32.toNatClampNeg v6) x4
    ((R t 4) : Option Nat).bind fun a19 =>
    if kdx σ a19 = 20 then
    if ¬ (v6 < 0 ∨ lnx σ a19 ≤ Int32.toNatClampNeg v6) then
    let I22 := u2 I18 a19 (Int32.toNatClampNeg v6) x5
    let I23 := u2 I22 a2 (Int32.toNatClampNeg x1) (v5 + (1 : Int32))
    some (I23, v5)
    else none
    else none
    else none
    else none
    else none
    else none
    else none
    else none
  else
    some (I, (-4 : Int32))
  else none
  else none
  else none
theorem kX6_added {G : Gx} {l : Launch} {σ : Shp} {I : Nat → Nat → Int32} {J : Nat → Nat → Int64} {D : Nat → Nat → UInt64} {R : Nat → Nat → Option Nat} {t : Nat} {x1 : Int32} {x2 : Int32} {x3 : Int32} {x4 : Int32} {x5 : Int32} {I9 : Nat → Nat → Int32} {r9 : Int32} (h : fX6_added σ I R t x1 x2 x3 x4 x5 = some (I9, r9)) : Con G l yX6_added cX6_added 8 (some .int) 0 0 [vR (some t), vI x1, vI x2, vI x3, vI x4, vI x5] (σ, I, J, D, R) (σ, I9, J, D, R) (some (vI r9)) := by
  unfold fX6_added at h
  refine Con.mk (by decide +kernel) rfl (Nat.le_of_ble_eq_true rfl) ?_
  show WX6_added G l σ (σ, I9, J, D, R) (some (vI r9)) (σ, I, J, D, R) 0 _ []
  refine r_aload_n (pc := 0) dX6_added_0 rfl 0 rfl ?_
  obtain ⟨g1, h⟩ := gd h
  obtain ⟨a2, ha2, h⟩ := ob h
  refine r_getS (pc := 1) dX6_added_1 fgX6_11 rfl g1 ha2 ?_
  refine r_iload_n (pc := 4) dX6_added_4 rfl 1 rfl ?_
  obtain ⟨g3, h⟩ := gd h
  obtain ⟨g4, h⟩ := gd h
  refine r_iaload (pc := 5) dX6_added_5 g3 g4 ?_
  refine r_istore (pc := 6) (L' := [(6, vI (I a2 (Int32.toNatClampNeg x1))), (0, vR (some t)), (1, vI x1), (2, vI x2), (3, vI x3), (4, vI x4), (5, vI x5)]) dX6_added_6 (by decide) rfl ?_
  refine r_iload (pc := 8) dX6_added_8 0 rfl ?_
  refine r_bipush (pc := 10) dX6_added_10 kc_bipush_40 ?_
  refine r_icmp_lt (pc := 12) (tgt := 18) dX6_added_12 rfl (fun c => ?_) (fun c => ?_)
  · have h := it h c
    refine r_iload_n (pc := 18) dX6_added_18 rfl 2 rfl ?_
    refine r_bipush (pc := 19) dX6_added_19 kc_bipush_40 ?_
    refine r_imul (pc := 21) dX6_added_21 ?_
    refine r_iload (pc := 22) dX6_added_22 0 rfl ?_
    refine r_iadd (pc := 24) dX6_added_24 ?_
    refine r_istore (pc := 25) (L' := [(7, vI ((x1 * (40 : Int32)) + (I a2 (Int32.toNatClampNeg x1)))), (6, vI (I a2 (Int32.toNatClampNeg x1))), (0, vR (some t)), (1, vI x1), (2, vI x2), (3, vI x3), (4, vI x4), (5, vI x5)]) dX6_added_25 (by decide) rfl ?_
    refine r_aload_n (pc := 27) dX6_added_27 rfl 2 rfl ?_
    obtain ⟨a7, ha7, h⟩ := ob h
    refine r_getS (pc := 28) dX6_added_28 fgX6_15 rfl g1 ha7 ?_
    refine r_iload (pc := 31) dX6_added_31 0 rfl ?_
    refine r_iload_n (pc := 33) dX6_added_33 rfl 4 rfl ?_
    obtain ⟨g8, h⟩ := gd h
    obtain ⟨g9, h⟩ := gd h
    refine r_iastore (pc := 34) dX6_added_34 g8 g9 ?_
    refine r_aload_n (pc := 35) dX6_added_35 rfl 2 rfl ?_
    obtain ⟨a11, ha11, h⟩ := ob h
    refine r_getS (pc := 36) dX6_added_36 fgX6_18 rfl g1 ha11 ?_
    refine r_iload (pc := 39) dX6_added_39 0 rfl ?_
    refine r_iload_n (pc := 41) dX6_added_41 rfl 5 rfl ?_
    obtain ⟨g12, h⟩ := gd h
    obtain ⟨g13, h⟩ := gd h
    refine r_iastore (pc := 42) dX6_added_42 g12 g13 ?_
    refine r_aload_n (pc := 43) dX6_added_43 rfl 2 rfl ?_
    obtain ⟨a15, ha15, h⟩ := ob h
    refine r_getS (pc := 44) dX6_added_44 fgX6_21 rfl g1 ha15 ?_
    refine r_iload (pc := 47) dX6_added_47 0 rfl ?_
    refine r_iload (pc := 49) dX6_added_49 6 rfl ?_
    obtain ⟨g16, h⟩ := gd h
    obtain ⟨g17, h⟩ := gd h
    refine r_iastore (pc := 51) dX6_added_51 g16 g17 ?_
    refine r_aload_n (pc := 52) dX6_added_52 rfl 2 rfl ?_
    obtain ⟨a19, ha19, h⟩ := ob h
    refine r_getS (pc := 53) dX6_added_53 fgX6_24 rfl g1 ha19 ?_
    refine r_iload (pc := 56) dX6_added_56 0 rfl ?_
    refine r_iload (pc := 58) dX6_added_58 7 rfl ?_
    obtain ⟨g20, h⟩ := gd h
    obtain ⟨g21, h⟩ := gd h
    refine r_iastore (pc := 60) dX6_added_60 g20 g21 ?_
    refine r_aload_n (pc := 61) dX6_added_61 rfl 2 rfl ?_
    refine r_getS (pc := 62) dX6_added_62 fgX6_11 rfl g1 ha2 ?_
    refine r_iload_n (pc := 65) dX6_added_65 rfl 3 rfl ?_
    refine r_iload (pc := 66) dX6_added_66 1 rfl ?_
    refine r_iconst (pc := 68) dX6_added_68 kc_iconst_1 ?_
    refine r_iadd (pc := 69) dX6_added_69 ?_
    refine r_iastore (pc := 70) dX6_added_70 g3 g4 ?_
    refine r_iload (pc := 71) dX6_added_71 1 rfl ?_
    cases h
    exact r_iret dX6_added_73
  · have h := ie h c
    refine r_bipush (pc := 15) dX6_added_15 kc_bipush_m4 ?_
    cases h
    exact r_iret dX6_added_17
abbrev WX6_emptied (G : Gx) (l : Launch) (σ0 : Shp) (X1 : Stt) (rv : Option SV) : Stt → Nat → List (Nat × SV) → List SV → Prop := Wm G l yX6_emptied cX6_emptied 3 (some .int) (fun _ => True) (rmx 0 0 σ0 X1.1) σ0 (Qmx G σ0 X1 rv)
def fX6_emptied (σ : Shp) (I : Nat → Nat → Int32) (R : Nat → Nat → Option Nat) (t : Nat) (x1 : Int32) : Option ((Nat → Nat → Int32) × (Int32)) :=
  if kdx σ t = 7 then
  ((R t 0) : Option Nat).bind fun a2 =>
  if kdx σ a2 = 20 then
  if ¬ (x1 < 0 ∨ lnx σ a2 ≤ Int32.toNatClampNeg x1) then
  let v5 := (I a2 (Int32.toNatClampNeg x1))
  let I6 := u2 I a2 (Int32.toNatClampNeg x1) (0 : Int32)
  some (I6, v5)
  else none
  else none
  else none
theorem kX6_emptied {G : Gx} {l : Launch} {σ : Shp} {I : Nat → Nat → Int32} {J : Nat → Nat → Int64} {D : Nat → Nat → UInt64} {R : Nat → Nat → Option Nat} {t : Nat} {x1 : Int32} {I9 : Nat → Nat → Int32} {r9 : Int32} (h : fX6_emptied σ I R t x1 = some (I9, r9)) : Con G l yX6_emptied cX6_emptied 3 (some .int) 0 0 [vR (some t), vI x1] (σ, I, J, D, R) (σ, I9, J, D, R) (some (vI r9)) := by
  unfold fX6_emptied at h
  refine Con.mk (by decide +kernel) rfl (Nat.le_of_ble_eq_true rfl) ?_
  show WX6_emptied G l σ (σ, I9, J, D, R) (some (vI r9)) (σ, I, J, D, R) 0 _ []
  refine r_aload_n (pc := 0) dX6_emptied_0 rfl 0 rfl ?_
  obtain ⟨g1, h⟩ := gd h
  obtain ⟨a2, ha2, h⟩ := ob h
  refine r_getS (pc := 1) dX6_emptied_1 fgX6_11 rfl g1 ha2 ?_
  refine r_iload_n (pc := 4) dX6_emptied_4 rfl 1 rfl ?_
  obtain ⟨g3, h⟩ := gd h
  obtain ⟨g4, h⟩ := gd h
  refine r_iaload (pc := 5) dX6_emptied_5 g3 g4 ?_
  refine r_istore_n (pc := 6) (L' := [(2, vI (I a2 (Int32.toNatClampNeg x1))), (0, vR (some t)), (1, vI x1)]) dX6_emptied_6 rfl (by decide) rfl ?_
  refine r_aload_n (pc := 7) dX6_emptied_7 rfl 1 rfl ?_
  refine r_getS (pc := 8) dX6_emptied_8 fgX6_11 rfl g1 ha2 ?_
  refine r_iload_n (pc := 11) dX6_emptied_11 rfl 2 rfl ?_
  refine r_iconst (pc := 12) dX6_emptied_12 kc_iconst_0 ?_
  refine r_iastore (pc := 13) dX6_emptied_13 g3 g4 ?_
  refine r_iload_n (pc := 14) dX6_emptied_14 rfl 0 rfl ?_
  cases h
  exact r_iret dX6_emptied_15
abbrev WX6_stepsInAll (G : Gx) (l : Launch) (σ0 : Shp) (X1 : Stt) (rv : Option SV) : Stt → Nat → List (Nat × SV) → List SV → Prop := Wm G l yX6_stepsInAll cX6_stepsInAll 3 (some .int) (fun _ => True) (rmx 0 0 σ0 X1.1) σ0 (Qmx G σ0 X1 rv)
def fX6_stepsInAll_l4  (σ : Shp) (I : Nat → Nat → Int32) (R : Nat → Nat → Option Nat) (t : Nat) : Nat → (Int32) → (Int32) → Option ((Int32))
  | 0, _, _ => none
  | n + 1, x1, x2 =>
    if (4 : Int32) ≤ x2 then
      some x1
    else
      if kdx σ t = 7 then
      ((R t 0) : Option Nat).bind fun a2 =>
      if kdx σ a2 = 20 then
      if ¬ (x2 < 0 ∨ lnx σ a2 ≤ Int32.toNatClampNeg x2) then
      let v5 := (x1 + (I a2 (Int32.toNatClampNeg x2)))
      let v6 := x2 + (1 : Int32)
      fX6_stepsInAll_l4 σ I R t n v5 v6
      else none
      else none
      else none
theorem wX6_stepsInAll_l4 {G : Gx} {l : Launch} {σ : Shp} {I : Nat → Nat → Int32} {J : Nat → Nat → Int64} {D : Nat → Nat → UInt64} {R : Nat → Nat → Option Nat} {t : Nat} {r9 : Int32} : ∀ (n : Nat) (x1 : Int32) (x2 : Int32), fX6_stepsInAll_l4 σ I R t n x1 x2 = some r9 → WX6_stepsInAll G l σ (σ, I, J, D, R) (some (vI r9)) (σ, I, J, D, R) 4 [(0, vR (some t)), (1, vI x1), (2, vI x2)] [] := by
  intro n
  induction n with
  | zero =>
    intro x1 x2 h
    have h : none = some _ := h
    cases h
  | succ n ih =>
    intro x1 x2 h
    rw [fX6_stepsInAll_l4] at h
    refine r_iload_n (pc := 4) dX6_stepsInAll_4 rfl 2 rfl ?_
    refine r_iconst (pc := 5) dX6_stepsInAll_5 kc_iconst_4 ?_
    refine r_icmp_ge (pc := 6) (tgt := 24) dX6_stepsInAll_6 rfl (fun c => ?_) (fun c => ?_)
    · have h := it h c
      refine r_iload_n (pc := 24) dX6_stepsInAll_24 rfl 1 rfl ?_
      cases h
      exact r_iret dX6_stepsInAll_25
    · have h := ie h c
      refine r_iload_n (pc := 9) dX6_stepsInAll_9 rfl 1 rfl ?_
      refine r_aload_n (pc := 10) dX6_stepsInAll_10 rfl 0 rfl ?_
      obtain ⟨g1, h⟩ := gd h
      obtain ⟨a2, ha2, h⟩ := ob h
      refine r_getS (pc := 11) dX6_stepsInAll_11 fgX6_11 rfl g1 ha2 ?_
      refine r_iload_n (pc := 14) dX6_stepsInAll_14 rfl 2 rfl ?_
      obtain ⟨g3, h⟩ := gd h
      obtain ⟨g4, h⟩ := gd h
      refine r_iaload (pc := 15) dX6_stepsInAll_15 g3 g4 ?_
      refine r_iadd (pc := 16) dX6_stepsInAll_16 ?_
      refine r_istore_n (pc := 17) (L' := [(1, vI (x1 + (I a2 (Int32.toNatClampNeg x2)))), (0, vR (some t)), (2, vI x2)]) dX6_stepsInAll_17 rfl (by decide) rfl ?_
      refine r_iinc (pc := 18) (v := (x2 + (1 : Int32))) (L' := [(2, vI (x2 + (1 : Int32))), (1, vI (x1 + (I a2 (Int32.toNatClampNeg x2)))), (0, vR (some t))]) dX6_stepsInAll_18 2 rfl (kc_inc_1 _) (by decide) rfl ?_
      refine r_goto (pc := 21) (tgt := 4) dX6_stepsInAll_21 rfl ?_
      refine r_sub [2, 1, 0] rfl ?_
      exact ih _ _ h
def fX6_stepsInAll (σ : Shp) (I : Nat → Nat → Int32) (R : Nat → Nat → Option Nat) (t : Nat)  : Option ((Int32)) :=
  fX6_stepsInAll_l4 σ I R t FUx (0 : Int32) (0 : Int32)
theorem kX6_stepsInAll {G : Gx} {l : Launch} {σ : Shp} {I : Nat → Nat → Int32} {J : Nat → Nat → Int64} {D : Nat → Nat → UInt64} {R : Nat → Nat → Option Nat} {t : Nat}  {r9 : Int32} (h : fX6_stepsInAll σ I R t = some r9) : Con G l yX6_stepsInAll cX6_stepsInAll 3 (some .int) 0 0 [vR (some t)] (σ, I, J, D, R) (σ, I, J, D, R) (some (vI r9)) := by
  unfold fX6_stepsInAll at h
  refine Con.mk (by decide +kernel) rfl (Nat.le_of_ble_eq_true rfl) ?_
  show WX6_stepsInAll G l σ (σ, I, J, D, R) (some (vI r9)) (σ, I, J, D, R) 0 _ []
  refine r_iconst (pc := 0) dX6_stepsInAll_0 kc_iconst_0 ?_
  refine r_istore_n (pc := 1) (L' := [(1, vI (0 : Int32)), (0, vR (some t))]) dX6_stepsInAll_1 rfl (by decide) rfl ?_
  refine r_iconst (pc := 2) dX6_stepsInAll_2 kc_iconst_0 ?_
  refine r_istore_n (pc := 3) (L' := [(2, vI (0 : Int32)), (1, vI (0 : Int32)), (0, vR (some t))]) dX6_stepsInAll_3 rfl (by decide) rfl ?_
  refine r_sub [2, 1, 0] rfl ?_
  exact wX6_stepsInAll_l4 _ _ _ h
abbrev WX6_lengthOf (G : Gx) (l : Launch) (σ0 : Shp) (X1 : Stt) (rv : Option SV) : Stt → Nat → List (Nat × SV) → List SV → Prop := Wm G l yX6_lengthOf cX6_lengthOf 2 (some .int) (fun _ => True) (rmx 0 0 σ0 X1.1) σ0 (Qmx G σ0 X1 rv)
def fX6_lengthOf (σ : Shp) (I : Nat → Nat → Int32) (R : Nat → Nat → Option Nat) (t : Nat) (x1 : Int32) : Option ((Int32)) :=
  if kdx σ t = 7 then
  ((R t 0) : Option Nat).bind fun a2 =>
  if kdx σ a2 = 20 then
  if ¬ (x1 < 0 ∨ lnx σ a2 ≤ Int32.toNatClampNeg x1) then
  some (I a2 (Int32.toNatClampNeg x1))
  else none
  else none
  else none
theorem kX6_lengthOf {G : Gx} {l : Launch} {σ : Shp} {I : Nat → Nat → Int32} {J : Nat → Nat → Int64} {D : Nat → Nat → UInt64} {R : Nat → Nat → Option Nat} {t : Nat} {x1 : Int32} {r9 : Int32} (h : fX6_lengthOf σ I R t x1 = some r9) : Con G l yX6_lengthOf cX6_lengthOf 2 (some .int) 0 0 [vR (some t), vI x1] (σ, I, J, D, R) (σ, I, J, D, R) (some (vI r9)) := by
  unfold fX6_lengthOf at h
  refine Con.mk (by decide +kernel) rfl (Nat.le_of_ble_eq_true rfl) ?_
  show WX6_lengthOf G l σ (σ, I, J, D, R) (some (vI r9)) (σ, I, J, D, R) 0 _ []
  refine r_aload_n (pc := 0) dX6_lengthOf_0 rfl 0 rfl ?_
  obtain ⟨g1, h⟩ := gd h
  obtain ⟨a2, ha2, h⟩ := ob h
  refine r_getS (pc := 1) dX6_lengthOf_1 fgX6_11 rfl g1 ha2 ?_
  refine r_iload_n (pc := 4) dX6_lengthOf_4 rfl 1 rfl ?_
  obtain ⟨g3, h⟩ := gd h
  obtain ⟨g4, h⟩ := gd h
  refine r_iaload (pc := 5) dX6_lengthOf_5 g3 g4 ?_
  cases h
  exact r_iret dX6_lengthOf_6
abbrev WX6_isPlace (G : Gx) (l : Launch) (σ0 : Shp) (X1 : Stt) (rv : Option SV) : Stt → Nat → List (Nat × SV) → List SV → Prop := Wm G l yX6_isPlace cX6_isPlace 3 (some .boolean) (fun _ => True) (rmx 0 0 σ0 X1.1) σ0 (Qmx G σ0 X1 rv)
def fX6_isPlace (σ : Shp) (I : Nat → Nat → Int32) (R : Nat → Nat → Option Nat) (t : Nat) (x1 : Int32) (x2 : Int32) : Option ((Int32)) :=
  if x1 < 0 then
    some (0 : Int32)
  else
    if (4 : Int32) ≤ x1 then
      some (0 : Int32)
    else
      if x2 < 0 then
        some (0 : Int32)
      else
        if kdx σ t = 7 then
        ((R t 0) : Option Nat).bind fun a2 =>
        if kdx σ a2 = 20 then
        if ¬ (x1 < 0 ∨ lnx σ a2 ≤ Int32.toNatClampNeg x1) then
        if (I a2 (Int32.toNatClampNeg x1)) ≤ x2 then
          some (0 : Int32)
        else
          some (1 : Int32)
        else none
        else none
        else none
theorem kX6_isPlace {G : Gx} {l : Launch} {σ : Shp} {I : Nat → Nat → Int32} {J : Nat → Nat → Int64} {D : Nat → Nat → UInt64} {R : Nat → Nat → Option Nat} {t : Nat} {x1 : Int32} {x2 : Int32} {r9 : Int32} (h : fX6_isPlace σ I R t x1 x2 = some r9) : Con G l yX6_isPlace cX6_isPlace 3 (some .boolean) 0 0 [vR (some t), vI x1, vI x2] (σ, I, J, D, R) (σ, I, J, D, R) (some (vI r9)) := by
  unfold fX6_isPlace at h
  refine Con.mk (by decide +kernel) rfl (Nat.le_of_ble_eq_true rfl) ?_
  show WX6_isPlace G l σ (σ, I, J, D, R) (some (vI r9)) (σ, I, J, D, R) 0 _ []
  refine r_iload_n (pc := 0) dX6_isPlace_0 rfl 1 rfl ?_
  refine r_if_lt (pc := 1) (tgt := 27) dX6_isPlace_1 rfl (fun c => ?_) (fun c => ?_)
  · have h := it h c
    refine r_iconst (pc := 27) dX6_isPlace_27 kc_iconst_0 ?_
    cases h
    exact r_zret dX6_isPlace_28 (Or.inl rfl)
  · have h := ie h c
    refine r_iload_n (pc := 4) dX6_isPlace_4 rfl 1 rfl ?_
    refine r_iconst (pc := 5) dX6_isPlace_5 kc_iconst_4 ?_
    refine r_icmp_ge (pc := 6) (tgt := 27) dX6_isPlace_6 rfl (fun c => ?_) (fun c => ?_)
    · have h := it h c
      refine r_iconst (pc := 27) dX6_isPlace_27 kc_iconst_0 ?_
      cases h
      exact r_zret dX6_isPlace_28 (Or.inl rfl)
    · have h := ie h c
      refine r_iload_n (pc := 9) dX6_isPlace_9 rfl 2 rfl ?_
      refine r_if_lt (pc := 10) (tgt := 27) dX6_isPlace_10 rfl (fun c => ?_) (fun c => ?_)
      · have h := it h c
        refine r_iconst (pc := 27) dX6_isPlace_27 kc_iconst_0 ?_
        cases h
        exact r_zret dX6_isPlace_28 (Or.inl rfl)
      · have h := ie h c
        refine r_iload_n (pc := 13) dX6_isPlace_13 rfl 2 rfl ?_
        refine r_aload_n (pc := 14) dX6_isPlace_14 rfl 0 rfl ?_
        obtain ⟨g1, h⟩ := gd h
        obtain ⟨a2, ha2, h⟩ := ob h
        refine r_getS (pc := 15) dX6_isPlace_15 fgX6_11 rfl g1 ha2 ?_
        refine r_iload_n (pc := 18) dX6_isPlace_18 rfl 1 rfl ?_
        obtain ⟨g3, h⟩ := gd h
        obtain ⟨g4, h⟩ := gd h
        refine r_iaload (pc := 19) dX6_isPlace_19 g3 g4 ?_
        refine r_icmp_ge (pc := 20) (tgt := 27) dX6_isPlace_20 rfl (fun c => ?_) (fun c => ?_)
        · have h := it h c
          refine r_iconst (pc := 27) dX6_isPlace_27 kc_iconst_0 ?_
          cases h
          exact r_zret dX6_isPlace_28 (Or.inl rfl)
        · have h := ie h c
          refine r_iconst (pc := 23) dX6_isPlace_23 kc_iconst_1 ?_
          refine r_goto (pc := 24) (tgt := 28) dX6_isPlace_24 rfl ?_
          cases h
          exact r_zret dX6_isPlace_28 (Or.inr rfl)
abbrev WX6_opAt (G : Gx) (l : Launch) (σ0 : Shp) (X1 : Stt) (rv : Option SV) : Stt → Nat → List (Nat × SV) → List SV → Prop := Wm G l yX6_opAt cX6_opAt 3 (some .int) (fun _ => True) (rmx 1 22 σ0 X1.1) σ0 (Qmx G σ0 X1 rv)
def fX6_opAt (σ : Shp) (I : Nat → Nat → Int32) (R : Nat → Nat → Option Nat) (t : Nat) (x1 : Int32) (x2 : Int32) : Option ((Int32)) :=
  if kdx σ t = 7 then
  (fX6_isPlace σ I R t x1 x2).bind fun r2 =>
  if r2 = 0 then
    some (0 : Int32)
  else
    ((R t 1) : Option Nat).bind fun a4 =>
    if kdx σ a4 = 20 then
    if ¬ (((x1 * (40 : Int32)) + x2) < 0 ∨ lnx σ a4 ≤ Int32.toNatClampNeg ((x1 * (40 : Int32)) + x2)) then
    some (I a4 (Int32.toNatClampNeg ((x1 * (40 : Int32)) + x2)))
    else none
    else none
  else none
theorem kX6_opAt {G : Gx} {l : Launch} {σ : Shp} {I : Nat → Nat → Int32} {J : Nat → Nat → Int64} {D : Nat → Nat → UInt64} {R : Nat → Nat → Option Nat} {t : Nat} {x1 : Int32} {x2 : Int32} {r9 : Int32} (h : fX6_opAt σ I R t x1 x2 = some r9) : Con G l yX6_opAt cX6_opAt 3 (some .int) 1 22 [vR (some t), vI x1, vI x2] (σ, I, J, D, R) (σ, I, J, D, R) (some (vI r9)) := by
  unfold fX6_opAt at h
  refine Con.mk (by decide +kernel) rfl (Nat.le_of_ble_eq_true rfl) ?_
  show WX6_opAt G l σ (σ, I, J, D, R) (some (vI r9)) (σ, I, J, D, R) 0 _ []
  refine r_aload_n (pc := 0) dX6_opAt_0 rfl 0 rfl ?_
  refine r_iload_n (pc := 1) dX6_opAt_1 rfl 1 rfl ?_
  refine r_iload_n (pc := 2) dX6_opAt_2 rfl 2 rfl ?_
  obtain ⟨g1, h⟩ := gd h
  obtain ⟨r2, hc3, h⟩ := ob h
  refine r_callV1 (pc := 3) (av := [vI x1, vI x2]) (S := []) dX6_opAt_3 (kX6_isPlace hc3) g1 rfl mkX6_33 mwX6_isPlace rfl ⟨Nat.le_of_ble_eq_true rfl, Nat.le_of_ble_eq_true rfl⟩ (Nat.le_of_ble_eq_true rfl) ⟨Nat.le_refl _, Nat.le_refl _⟩ (fun b => b) ?_
  refine r_if_eq (pc := 6) (tgt := 23) dX6_opAt_6 rfl (fun c => ?_) (fun c => ?_)
  · have h := it h c
    refine r_iconst (pc := 23) dX6_opAt_23 kc_iconst_0 ?_
    cases h
    exact r_iret dX6_opAt_24
  · have h := ie h c
    refine r_aload_n (pc := 9) dX6_opAt_9 rfl 0 rfl ?_
    obtain ⟨a4, ha4, h⟩ := ob h
    refine r_getS (pc := 10) dX6_opAt_10 fgX6_15 rfl g1 ha4 ?_
    refine r_iload_n (pc := 13) dX6_opAt_13 rfl 1 rfl ?_
    refine r_bipush (pc := 14) dX6_opAt_14 kc_bipush_40 ?_
    refine r_imul (pc := 16) dX6_opAt_16 ?_
    refine r_iload_n (pc := 17) dX6_opAt_17 rfl 2 rfl ?_
    refine r_iadd (pc := 18) dX6_opAt_18 ?_
    obtain ⟨g5, h⟩ := gd h
    obtain ⟨g6, h⟩ := gd h
    refine r_iaload (pc := 19) dX6_opAt_19 g5 g6 ?_
    refine r_goto (pc := 20) (tgt := 24) dX6_opAt_20 rfl ?_
    cases h
    exact r_iret dX6_opAt_24
abbrev WX6_aAt (G : Gx) (l : Launch) (σ0 : Shp) (X1 : Stt) (rv : Option SV) : Stt → Nat → List (Nat × SV) → List SV → Prop := Wm G l yX6_aAt cX6_aAt 3 (some .int) (fun _ => True) (rmx 1 22 σ0 X1.1) σ0 (Qmx G σ0 X1 rv)
def fX6_aAt (σ : Shp) (I : Nat → Nat → Int32) (R : Nat → Nat → Option Nat) (t : Nat) (x1 : Int32) (x2 : Int32) : Option ((Int32)) :=
  if kdx σ t = 7 then
  (fX6_isPlace σ I R t x1 x2).bind fun r2 =>
  if r2 = 0 then
    some (0 : Int32)
  else
    ((R t 2) : Option Nat).bind fun a4 =>
    if kdx σ a4 = 20 then
    if ¬ (((x1 * (40 : Int32)) + x2) < 0 ∨ lnx σ a4 ≤ Int32.toNatClampNeg ((x1 * (40 : Int32)) + x2)) then
    some (I a4 (Int32.toNatClampNeg ((x1 * (40 : Int32)) + x2)))
    else none
    else none
  else none
theorem kX6_aAt {G : Gx} {l : Launch} {σ : Shp} {I : Nat → Nat → Int32} {J : Nat → Nat → Int64} {D : Nat → Nat → UInt64} {R : Nat → Nat → Option Nat} {t : Nat} {x1 : Int32} {x2 : Int32} {r9 : Int32} (h : fX6_aAt σ I R t x1 x2 = some r9) : Con G l yX6_aAt cX6_aAt 3 (some .int) 1 22 [vR (some t), vI x1, vI x2] (σ, I, J, D, R) (σ, I, J, D, R) (some (vI r9)) := by
  unfold fX6_aAt at h
  refine Con.mk (by decide +kernel) rfl (Nat.le_of_ble_eq_true rfl) ?_
  show WX6_aAt G l σ (σ, I, J, D, R) (some (vI r9)) (σ, I, J, D, R) 0 _ []
  refine r_aload_n (pc := 0) dX6_aAt_0 rfl 0 rfl ?_
  refine r_iload_n (pc := 1) dX6_aAt_1 rfl 1 rfl ?_
  refine r_iload_n (pc := 2) dX6_aAt_2 rfl 2 rfl ?_
  obtain ⟨g1, h⟩ := gd h
  obtain ⟨r2, hc3, h⟩ := ob h
  refine r_callV1 (pc := 3) (av := [vI x1, vI x2]) (S := []) dX6_aAt_3 (kX6_isPlace hc3) g1 rfl mkX6_33 mwX6_isPlace rfl ⟨Nat.le_of_ble_eq_true rfl, Nat.le_of_ble_eq_true rfl⟩ (Nat.le_of_ble_eq_true rfl) ⟨Nat.le_refl _, Nat.le_refl _⟩ (fun b => b) ?_
  refine r_if_eq (pc := 6) (tgt := 23) dX6_aAt_6 rfl (fun c => ?_) (fun c => ?_)
  · have h := it h c
    refine r_iconst (pc := 23) dX6_aAt_23 kc_iconst_0 ?_
    cases h
    exact r_iret dX6_aAt_24
  · have h := ie h c
    refine r_aload_n (pc := 9) dX6_aAt_9 rfl 0 rfl ?_
    obtain ⟨a4, ha4, h⟩ := ob h
    refine r_getS (pc := 10) dX6_aAt_10 fgX6_18 rfl g1 ha4 ?_
    refine r_iload_n (pc := 13) dX6_aAt_13 rfl 1 rfl ?_
    refine r_bipush (pc := 14) dX6_aAt_14 kc_bipush_40 ?_
    refine r_imul (pc := 16) dX6_aAt_16 ?_
    refine r_iload_n (pc := 17) dX6_aAt_17 rfl 2 rfl ?_
    refine r_iadd (pc := 18) dX6_aAt_18 ?_
    obtain ⟨g5, h⟩ := gd h
    obtain ⟨g6, h⟩ := gd h
    refine r_iaload (pc := 19) dX6_aAt_19 g5 g6 ?_
    refine r_goto (pc := 20) (tgt := 24) dX6_aAt_20 rfl ?_
    cases h
    exact r_iret dX6_aAt_24
abbrev WX6_bAt (G : Gx) (l : Launch) (σ0 : Shp) (X1 : Stt) (rv : Option SV) : Stt → Nat → List (Nat × SV) → List SV → Prop := Wm G l yX6_bAt cX6_bAt 3 (some .int) (fun _ => True) (rmx 1 22 σ0 X1.1) σ0 (Qmx G σ0 X1 rv)
def fX6_bAt (σ : Shp) (I : Nat → Nat → Int32) (R : Nat → Nat → Option Nat) (t : Nat) (x1 : Int32) (x2 : Int32) : Option ((Int32)) :=
  if kdx σ t = 7 then
  (fX6_isPlace σ I R t x1 x2).bind fun r2 =>
  if r2 = 0 then
    some (0 : Int32)
  else
    ((R t 3) : Option Nat).bind fun a4 =>
    if kdx σ a4 = 20 then
    if ¬ (((x1 * (40 : Int32)) + x2) < 0 ∨ lnx σ a4 ≤ Int32.toNatClampNeg ((x1 * (40 : Int32)) + x2)) then
    some (I a4 (Int32.toNatClampNeg ((x1 * (40 : Int32)) + x2)))
    else none
    else none
  else none
theorem kX6_bAt {G : Gx} {l : Launch} {σ : Shp} {I : Nat → Nat → Int32} {J : Nat → Nat → Int64} {D : Nat → Nat → UInt64} {R : Nat → Nat → Option Nat} {t : Nat} {x1 : Int32} {x2 : Int32} {r9 : Int32} (h : fX6_bAt σ I R t x1 x2 = some r9) : Con G l yX6_bAt cX6_bAt 3 (some .int) 1 22 [vR (some t), vI x1, vI x2] (σ, I, J, D, R) (σ, I, J, D, R) (some (vI r9)) := by
  unfold fX6_bAt at h
  refine Con.mk (by decide +kernel) rfl (Nat.le_of_ble_eq_true rfl) ?_
  show WX6_bAt G l σ (σ, I, J, D, R) (some (vI r9)) (σ, I, J, D, R) 0 _ []
  refine r_aload_n (pc := 0) dX6_bAt_0 rfl 0 rfl ?_
  refine r_iload_n (pc := 1) dX6_bAt_1 rfl 1 rfl ?_
  refine r_iload_n (pc := 2) dX6_bAt_2 rfl 2 rfl ?_
  obtain ⟨g1, h⟩ := gd h
  obtain ⟨r2, hc3, h⟩ := ob h
  refine r_callV1 (pc := 3) (av := [vI x1, vI x2]) (S := []) dX6_bAt_3 (kX6_isPlace hc3) g1 rfl mkX6_33 mwX6_isPlace rfl ⟨Nat.le_of_ble_eq_true rfl, Nat.le_of_ble_eq_true rfl⟩ (Nat.le_of_ble_eq_true rfl) ⟨Nat.le_refl _, Nat.le_refl _⟩ (fun b => b) ?_
  refine r_if_eq (pc := 6) (tgt := 23) dX6_bAt_6 rfl (fun c => ?_) (fun c => ?_)
  · have h := it h c
    refine r_iconst (pc := 23) dX6_bAt_23 kc_iconst_0 ?_
    cases h
    exact r_iret dX6_bAt_24
  · have h := ie h c
    refine r_aload_n (pc := 9) dX6_bAt_9 rfl 0 rfl ?_
    obtain ⟨a4, ha4, h⟩ := ob h
    refine r_getS (pc := 10) dX6_bAt_10 fgX6_21 rfl g1 ha4 ?_
    refine r_iload_n (pc := 13) dX6_bAt_13 rfl 1 rfl ?_
    refine r_bipush (pc := 14) dX6_bAt_14 kc_bipush_40 ?_
    refine r_imul (pc := 16) dX6_bAt_16 ?_
    refine r_iload_n (pc := 17) dX6_bAt_17 rfl 2 rfl ?_
    refine r_iadd (pc := 18) dX6_bAt_18 ?_
    obtain ⟨g5, h⟩ := gd h
    obtain ⟨g6, h⟩ := gd h
    refine r_iaload (pc := 19) dX6_bAt_19 g5 g6 ?_
    refine r_goto (pc := 20) (tgt := 24) dX6_bAt_20 rfl ?_
    cases h
    exact r_iret dX6_bAt_24
abbrev WX6_cAt (G : Gx) (l : Launch) (σ0 : Shp) (X1 : Stt) (rv : Option SV) : Stt → Nat → List (Nat × SV) → List SV → Prop := Wm G l yX6_cAt cX6_cAt 3 (some .int) (fun _ => True) (rmx 1 22 σ0 X1.1) σ0 (Qmx G σ0 X1 rv)
def fX6_cAt (σ : Shp) (I : Nat → Nat → Int32) (R : Nat → Nat → Option Nat) (t : Nat) (x1 : Int32) (x2 : Int32) : Option ((Int32)) :=
  if kdx σ t = 7 then
  (fX6_isPlace σ I R t x1 x2).bind fun r2 =>
  if r2 = 0 then
    some (0 : Int32)
  else
    ((R t 4) : Option Nat).bind fun a4 =>
    if kdx σ a4 = 20 then
    if ¬ (((x1 * (40 : Int32)) + x2) < 0 ∨ lnx σ a4 ≤ Int32.toNatClampNeg ((x1 * (40 : Int32)) + x2)) then
    some (I a4 (Int32.toNatClampNeg ((x1 * (40 : Int32)) + x2)))
    else none
    else none
  else none
theorem kX6_cAt {G : Gx} {l : Launch} {σ : Shp} {I : Nat → Nat → Int32} {J : Nat → Nat → Int64} {D : Nat → Nat → UInt64} {R : Nat → Nat → Option Nat} {t : Nat} {x1 : Int32} {x2 : Int32} {r9 : Int32} (h : fX6_cAt σ I R t x1 x2 = some r9) : Con G l yX6_cAt cX6_cAt 3 (some .int) 1 22 [vR (some t), vI x1, vI x2] (σ, I, J, D, R) (σ, I, J, D, R) (some (vI r9)) := by
  unfold fX6_cAt at h
  refine Con.mk (by decide +kernel) rfl (Nat.le_of_ble_eq_true rfl) ?_
  show WX6_cAt G l σ (σ, I, J, D, R) (some (vI r9)) (σ, I, J, D, R) 0 _ []
  refine r_aload_n (pc := 0) dX6_cAt_0 rfl 0 rfl ?_
  refine r_iload_n (pc := 1) dX6_cAt_1 rfl 1 rfl ?_
  refine r_iload_n (pc := 2) dX6_cAt_2 rfl 2 rfl ?_
  obtain ⟨g1, h⟩ := gd h
  obtain ⟨r2, hc3, h⟩ := ob h
  refine r_callV1 (pc := 3) (av := [vI x1, vI x2]) (S := []) dX6_cAt_3 (kX6_isPlace hc3) g1 rfl mkX6_33 mwX6_isPlace rfl ⟨Nat.le_of_ble_eq_true rfl, Nat.le_of_ble_eq_true rfl⟩ (Nat.le_of_ble_eq_true rfl) ⟨Nat.le_refl _, Nat.le_refl _⟩ (fun b => b) ?_
  refine r_if_eq (pc := 6) (tgt := 23) dX6_cAt_6 rfl (fun c => ?_) (fun c => ?_)
  · have h := it h c
    refine r_iconst (pc := 23) dX6_cAt_23 kc_iconst_0 ?_
    cases h
    exact r_iret dX6_cAt_24
  · have h := ie h c
    refine r_aload_n (pc := 9) dX6_cAt_9 rfl 0 rfl ?_
    obtain ⟨a4, ha4, h⟩ := ob h
    refine r_getS (pc := 10) dX6_cAt_10 fgX6_24 rfl g1 ha4 ?_
    refine r_iload_n (pc := 13) dX6_cAt_13 rfl 1 rfl ?_
    refine r_bipush (pc := 14) dX6_cAt_14 kc_bipush_40 ?_
    refine r_imul (pc := 16) dX6_cAt_16 ?_
    refine r_iload_n (pc := 17) dX6_cAt_17 rfl 2 rfl ?_
    refine r_iadd (pc := 18) dX6_cAt_18 ?_
    obtain ⟨g5, h⟩ := gd h
    obtain ⟨g6, h⟩ := gd h
    refine r_iaload (pc := 19) dX6_cAt_19 g5 g6 ?_
    refine r_goto (pc := 20) (tgt := 24) dX6_cAt_20 rfl ?_
    cases h
    exact r_iret dX6_cAt_24
abbrev WX6_endAt (G : Gx) (l : Launch) (σ0 : Shp) (X1 : Stt) (rv : Option SV) : Stt → Nat → List (Nat × SV) → List SV → Prop := Wm G l yX6_endAt cX6_endAt 3 (some .int) (fun _ => True) (rmx 1 22 σ0 X1.1) σ0 (Qmx G σ0 X1 rv)
def fX6_endAt (σ : Shp) (I : Nat → Nat → Int32) (R : Nat → Nat → Option Nat) (t : Nat) (x1 : Int32) (x2 : Int32) : Option ((Int32)) :=
  if kdx σ t = 7 then
  (fX6_isPlace σ I R t x1 x2).bind fun r2 =>
  if r2 = 0 then
    some (0 : Int32)
  else
    ((R t 5) : Option Nat).bind fun a4 =>
    if kdx σ a4 = 20 then
    if ¬ (((x1 * (40 : Int32)) + x2) < 0 ∨ lnx σ a4 ≤ Int32.toNatClampNeg ((x1 * (40 : Int32)) + x2)) then
    some (I a4 (Int32.toNatClampNeg ((x1 * (40 : Int32)) + x2)))
    else none
    else none
  else none
theorem kX6_endAt {G : Gx} {l : Launch} {σ : Shp} {I : Nat → Nat → Int32} {J : Nat → Nat → Int64} {D : Nat → Nat → UInt64} {R : Nat → Nat → Option Nat} {t : Nat} {x1 : Int32} {x2 : Int32} {r9 : Int32} (h : fX6_endAt σ I R t x1 x2 = some r9) : Con G l yX6_endAt cX6_endAt 3 (some .int) 1 22 [vR (some t), vI x1, vI x2] (σ, I, J, D, R) (σ, I, J, D, R) (some (vI r9)) := by
  unfold fX6_endAt at h
  refine Con.mk (by decide +kernel) rfl (Nat.le_of_ble_eq_true rfl) ?_
  show WX6_endAt G l σ (σ, I, J, D, R) (some (vI r9)) (σ, I, J, D, R) 0 _ []
  refine r_aload_n (pc := 0) dX6_endAt_0 rfl 0 rfl ?_
  refine r_iload_n (pc := 1) dX6_endAt_1 rfl 1 rfl ?_
  refine r_iload_n (pc := 2) dX6_endAt_2 rfl 2 rfl ?_
  obtain ⟨g1, h⟩ := gd h
  obtain ⟨r2, hc3, h⟩ := ob h
  refine r_callV1 (pc := 3) (av := [vI x1, vI x2]) (S := []) dX6_endAt_3 (kX6_isPlace hc3) g1 rfl mkX6_33 mwX6_isPlace rfl ⟨Nat.le_of_ble_eq_true rfl, Nat.le_of_ble_eq_true rfl⟩ (Nat.le_of_ble_eq_true rfl) ⟨Nat.le_refl _, Nat.le_refl _⟩ (fun b => b) ?_
  refine r_if_eq (pc := 6) (tgt := 23) dX6_endAt_6 rfl (fun c => ?_) (fun c => ?_)
  · have h := it h c
    refine r_iconst (pc := 23) dX6_endAt_23 kc_iconst_0 ?_
    cases h
    exact r_iret dX6_endAt_24
  · have h := ie h c
    refine r_aload_n (pc := 9) dX6_endAt_9 rfl 0 rfl ?_
    obtain ⟨a4, ha4, h⟩ := ob h
    refine r_getS (pc := 10) dX6_endAt_10 fgX6_27 rfl g1 ha4 ?_
    refine r_iload_n (pc := 13) dX6_endAt_13 rfl 1 rfl ?_
    refine r_bipush (pc := 14) dX6_endAt_14 kc_bipush_40 ?_
    refine r_imul (pc := 16) dX6_endAt_16 ?_
    refine r_iload_n (pc := 17) dX6_endAt_17 rfl 2 rfl ?_
    refine r_iadd (pc := 18) dX6_endAt_18 ?_
    obtain ⟨g5, h⟩ := gd h
    obtain ⟨g6, h⟩ := gd h
    refine r_iaload (pc := 19) dX6_endAt_19 g5 g6 ?_
    refine r_goto (pc := 20) (tgt := 24) dX6_endAt_20 rfl ?_
    cases h
    exact r_iret dX6_endAt_24
abbrev WX6_firstWrong (G : Gx) (l : Launch) (σ0 : Shp) (X1 : Stt) (rv : Option SV) : Stt → Nat → List (Nat × SV) → List SV → Prop := Wm G l yX6_firstWrong cX6_firstWrong 7 (some .int) (fun _ => True) (rmx 0 0 σ0 X1.1) σ0 (Qmx G σ0 X1 rv)
def fX6_firstWrong_b53 (q7 : (Nat → Nat → Int32) → (Int32) → (Int32) → (Int32) → (Int32) → (Option ((Nat → Nat → Int32) × (Int32)))) (σ : Shp) (R : Nat → Nat → Option Nat) (t : Nat) (I : Nat → Nat → Int32) (x1 : Int32) (x2 : Int32) (x4 : Int32) (x5 : Int32) : Option ((Nat → Nat → Int32) × (Int32)) :=
  if x5 = 0 then
    if x2 = 0 then
      some (I, x4)
    else
      let v17 := x2 + (-1 : Int32)
      if kdx σ t = 7 then
      ((R t 6) : Option Nat).bind fun a19 =>
      if kdx σ a19 = 20 then
      if ¬ (v17 < 0 ∨ lnx σ a19 ≤ Int32.toNatClampNeg v17) then
      let v22 := ((x1 * (40 : Int32)) + (I a19 (Int32.toNatClampNeg v17)))
      ((R t 5) : Option Nat).bind fun a23 =>
      if kdx σ a23 = 20 then
      if ¬ (v22 < 0 ∨ lnx σ a23 ≤ Int32.toNatClampNeg v22) then
      let I26 := u2 I a23 (Int32.toNatClampNeg v22) x4
      ((R t 1) : Option Nat).bind fun a27 =>
      if kdx σ a27 = 20 then
      if ¬ (v22 < 0 ∨ lnx σ a27 ≤ Int32.toNatClampNeg v22) then
      if (I26 a27 (Int32.toNatClampNeg v22)) = (16 : Int32) then
        let v30 := x4 + (1 : Int32)
        q7 I26 x1 v17 (1 : Int32) v30
      else
        if (I26 a27 (Int32.toNatClampNeg v22)) = (17 : Int32) then
          let v32 := x4 + (1 : Int32)
          q7 I26 x1 v17 (1 : Int32) v32
        else
          let v31 := x4 + (1 : Int32)
          q7 I26 x1 v17 (0 : Int32) v31
      else none
      else none
      else none
      else none
      else none
      else none
      else none
  else
    if x5 < (11 : Int32) then
      let v9 := x4 + (1 : Int32)
      q7 I x1 x2 (0 : Int32) v9
    else
      if kdx σ t = 7 then
      ((R t 6) : Option Nat).bind fun a11 =>
      if kdx σ a11 = 20 then
      if ¬ (x2 < 0 ∨ lnx σ a11 ≤ Int32.toNatClampNeg x2) then
      let I14 := u2 I a11 (Int32.toNatClampNeg x2) x4
      let v15 := x2 + (1 : Int32)
      let v16 := x4 + (1 : Int32)
      q7 I14 x1 v15 (0 : Int32) v16
      else none
      else none
      else none
theorem wX6_firstWrong_b53 {G : Gx} {l : Launch} {σ : Shp} {I : Nat → Nat → Int32} {J : Nat → Nat → Int64} {D : Nat → Nat → UInt64} {R : Nat → Nat → Option Nat} {t : Nat} {I9 : Nat → Nat → Int32} {r9 : Int32} {q7 : (Nat → Nat → Int32) → (Int32) → (Int32) → (Int32) → (Int32) → (Option ((Nat → Nat → Int32) × (Int32)))} {x1 : Int32} {x2 : Int32} {x4 : Int32} {x5 : Int32} (hq7 : ∀ (I : Nat → Nat → Int32) (x1 : Int32) (x2 : Int32) (x3 : Int32) (x4 : Int32), q7 I x1 x2 x3 x4 = some (I9, r9) → WX6_firstWrong G l σ (σ, I9, J, D, R) (some (vI r9)) (σ, I, J, D, R) 7 [(0, vR (some t)), (1, vI x1), (2, vI x2), (3, vI x3), (4, vI x4)] []) (h : fX6_firstWrong_b53 q7 σ R t I x1 x2 x4 x5 = some (I9, r9)) : WX6_firstWrong G l σ (σ, I9, J, D, R) (some (vI r9)) (σ, I, J, D, R) 53 [(0, vR (some t)), (1, vI x1), (2, vI x2), (4, vI x4), (5, vI x5)] [] := by
  unfold fX6_firstWrong_b53 at h
  refine r_iconst (pc := 53) dX6_firstWrong_53 kc_iconst_0 ?_
  refine r_istore_n (pc := 54) (L' := [(3, vI (0 : Int32)), (0, vR (some t)), (1, vI x1), (2, vI x2), (4, vI x4), (5, vI x5)]) dX6_firstWrong_54 rfl (by decide) rfl ?_
  refine r_iload (pc := 55) dX6_firstWrong_55 5 rfl ?_
  refine r_ifne (pc := 57) (tgt := 125) dX6_firstWrong_57 rfl (fun c => ?_) (fun c => ?_)
  · have h := ie h c
    refine r_iload (pc := 125) dX6_firstWrong_125 5 rfl ?_
    refine r_bipush (pc := 127) dX6_firstWrong_127 kc_bipush_11 ?_
    refine r_icmp_lt (pc := 129) (tgt := 143) dX6_firstWrong_129 rfl (fun c => ?_) (fun c => ?_)
    · have h := it h c
      refine r_iinc (pc := 143) (v := (x4 + (1 : Int32))) (L' := [(4, vI (x4 + (1 : Int32))), (3, vI (0 : Int32)), (0, vR (some t)), (1, vI x1), (2, vI x2), (5, vI x5)]) dX6_firstWrong_143 4 rfl (kc_inc_1 _) (by decide) rfl ?_
      refine r_goto (pc := 146) (tgt := 7) dX6_firstWrong_146 rfl ?_
      refine r_sub [2, 3, 4, 1, 0] rfl ?_
      exact hq7 _ _ _ _ _ h
    · have h := ie h c
      refine r_aload_n (pc := 132) dX6_firstWrong_132 rfl 1 rfl ?_
      obtain ⟨g10, h⟩ := gd h
      obtain ⟨a11, ha11, h⟩ := ob h
      refine r_getS (pc := 133) dX6_firstWrong_133 fgX6_30 rfl g10 ha11 ?_
      refine r_iload_n (pc := 136) dX6_firstWrong_136 rfl 3 rfl ?_
      refine r_iload (pc := 137) dX6_firstWrong_137 4 rfl ?_
      obtain ⟨g12, h⟩ := gd h
      obtain ⟨g13, h⟩ := gd h
      refine r_iastore (pc := 139) dX6_firstWrong_139 g12 g13 ?_
      refine r_iinc (pc := 140) (v := (x2 + (1 : Int32))) (L' := [(2, vI (x2 + (1 : Int32))), (3, vI (0 : Int32)), (0, vR (some t)), (1, vI x1), (4, vI x4), (5, vI x5)]) dX6_firstWrong_140 3 rfl (kc_inc_1 _) (by decide) rfl ?_
      refine r_iinc (pc := 143) (v := (x4 + (1 : Int32))) (L' := [(4, vI (x4 + (1 : Int32))), (2, vI (x2 + (1 : Int32))), (3, vI (0 : Int32)), (0, vR (some t)), (1, vI x1), (5, vI x5)]) dX6_firstWrong_143 4 rfl (kc_inc_1 _) (by decide) rfl ?_
      refine r_goto (pc := 146) (tgt := 7) dX6_firstWrong_146 rfl ?_
      refine r_sub [3, 4, 1, 2, 0] rfl ?_
      exact hq7 _ _ _ _ _ h
  · have h := it h c
    refine r_iload_n (pc := 60) dX6_firstWrong_60 rfl 3 rfl ?_
    refine r_ifne (pc := 61) (tgt := 67) dX6_firstWrong_61 rfl (fun c => ?_) (fun c => ?_)
    · have h := ie h c
      refine r_iinc (pc := 67) (v := (x2 + (-1 : Int32))) (L' := [(2, vI (x2 + (-1 : Int32))), (3, vI (0 : Int32)), (0, vR (some t)), (1, vI x1), (4, vI x4), (5, vI x5)]) dX6_firstWrong_67 3 rfl (kc_inc_m1 _) (by decide) rfl ?_
      refine r_iload_n (pc := 70) dX6_firstWrong_70 rfl 3 rfl ?_
      refine r_bipush (pc := 71) dX6_firstWrong_71 kc_bipush_40 ?_
      refine r_imul (pc := 73) dX6_firstWrong_73 ?_
      refine r_aload_n (pc := 74) dX6_firstWrong_74 rfl 2 rfl ?_
      obtain ⟨g18, h⟩ := gd h
      obtain ⟨a19, ha19, h⟩ := ob h
      refine r_getS (pc := 75) dX6_firstWrong_75 fgX6_30 rfl g18 ha19 ?_
      refine r_iload_n (pc := 78) dX6_firstWrong_78 rfl 0 rfl ?_
      obtain ⟨g20, h⟩ := gd h
      obtain ⟨g21, h⟩ := gd h
      refine r_iaload (pc := 79) dX6_firstWrong_79 g20 g21 ?_
      refine r_iadd (pc := 80) dX6_firstWrong_80 ?_
      refine r_istore (pc := 81) (L' := [(6, vI ((x1 * (40 : Int32)) + (I a19 (Int32.toNatClampNeg (x2 + (-1 : Int32)))))), (2, vI (x2 + (-1 : Int32))), (3, vI (0 : Int32)), (0, vR (some t)), (1, vI x1), (4, vI x4), (5, vI x5)]) dX6_firstWrong_81 (by decide) rfl ?_
      refine r_aload_n (pc := 83) dX6_firstWrong_83 rfl 3 rfl ?_
      obtain ⟨a23, ha23, h⟩ := ob h
      refine r_getS (pc := 84) dX6_firstWrong_84 fgX6_27 rfl g18 ha23 ?_
      refine r_iload (pc := 87) dX6_firstWrong_87 0 rfl ?_
      refine r_iload (pc := 89) dX6_firstWrong_89 5 rfl ?_
      obtain ⟨g24, h⟩ := gd h
      obtain ⟨g25, h⟩ := gd h
      refine r_iastore (pc := 91) dX6_firstWrong_91 g24 g25 ?_
      refine r_aload_n (pc := 92) dX6_firstWrong_92 rfl 3 rfl ?_
      obtain ⟨a27, ha27, h⟩ := ob h
      refine r_getS (pc := 93) dX6_firstWrong_93 fgX6_15 rfl g18 ha27 ?_
      refine r_iload (pc := 96) dX6_firstWrong_96 0 rfl ?_
      obtain ⟨g28, h⟩ := gd h
      obtain ⟨g29, h⟩ := gd h
      refine r_iaload (pc := 98) dX6_firstWrong_98 g28 g29 ?_
      refine r_bipush (pc := 99) dX6_firstWrong_99 kc_bipush_16 ?_
      refine r_icmp_eq (pc := 101) (tgt := 116) dX6_firstWrong_101 rfl (fun c => ?_) (fun c => ?_)
      · have h := it h c
        refine r_iconst (pc := 116) dX6_firstWrong_116 kc_iconst_1 ?_
        refine r_goto (pc := 117) (tgt := 121) dX6_firstWrong_117 rfl ?_
        refine r_istore_n (pc := 121) (L' := [(3, vI (1 : Int32)), (6, vI ((x1 * (40 : Int32)) + (I a19 (Int32.toNatClampNeg (x2 + (-1 : Int32)))))), (2, vI (x2 + (-1 : Int32))), (0, vR (some t)), (1, vI x1), (4, vI x4), (5, vI x5)]) dX6_firstWrong_121 rfl (by decide) rfl ?_
        refine r_goto (pc := 122) (tgt := 143) dX6_firstWrong_122 rfl ?_
        refine r_iinc (pc := 143) (v := (x4 + (1 : Int32))) (L' := [(4, vI (x4 + (1 : Int32))), (3, vI (1 : Int32)), (6, vI ((x1 * (40 : Int32)) + (I a19 (Int32.toNatClampNeg (x2 + (-1 : Int32)))))), (2, vI (x2 + (-1 : Int32))), (0, vR (some t)), (1, vI x1), (5, vI x5)]) dX6_firstWrong_143 5 rfl (kc_inc_1 _) (by decide) rfl ?_
        refine r_goto (pc := 146) (tgt := 7) dX6_firstWrong_146 rfl ?_
        refine r_sub [4, 5, 3, 1, 0] rfl ?_
        exact hq7 _ _ _ _ _ h
      · have h := ie h c
        refine r_aload_n (pc := 104) dX6_firstWrong_104 rfl 3 rfl ?_
        refine r_getS (pc := 105) dX6_firstWrong_105 fgX6_15 rfl g18 ha27 ?_
        refine r_iload (pc := 108) dX6_firstWrong_108 0 rfl ?_
        refine r_iaload (pc := 110) dX6_firstWrong_110 g28 g29 ?_
        refine r_bipush (pc := 111) dX6_firstWrong_111 kc_bipush_17 ?_
        refine r_icmp_ne (pc := 113) (tgt := 120) dX6_firstWrong_113 rfl (fun c => ?_) (fun c => ?_)
        · have h := ie h c
          refine r_iconst (pc := 120) dX6_firstWrong_120 kc_iconst_0 ?_
          refine r_istore_n (pc := 121) (L' := [(3, vI (0 : Int32)), (6, vI ((x1 * (40 : Int32)) + (I a19 (Int32.toNatClampNeg (x2 + (-1 : Int32)))))), (2, vI (x2 + (-1 : Int32))), (0, vR (some t)), (1, vI x1), (4, vI x4), (5, vI x5)]) dX6_firstWrong_121 rfl (by decide) rfl ?_
          refine r_goto (pc := 122) (tgt := 143) dX6_firstWrong_122 rfl ?_
          refine r_iinc (pc := 143) (v := (x4 + (1 : Int32))) (L' := [(4, vI (x4 + (1 : Int32))), (3, vI (0 : Int32)), (6, vI ((x1 * (40 : Int32)) + (I a19 (Int32.toNatClampNeg (x2 + (-1 : Int32)))))), (2, vI (x2 + (-1 : Int32))), (0, vR (some t)), (1, vI x1), (5, vI x5)]) dX6_firstWrong_143 5 rfl (kc_inc_1 _) (by decide) rfl ?_
          refine r_goto (pc := 146) (tgt := 7) dX6_firstWrong_146 rfl ?_
          refine r_sub [4, 5, 3, 1, 0] rfl ?_
          exact hq7 _ _ _ _ _ h
        · have h := it h c
          refine r_iconst (pc := 116) dX6_firstWrong_116 kc_iconst_1 ?_
          refine r_goto (pc := 117) (tgt := 121) dX6_firstWrong_117 rfl ?_
          refine r_istore_n (pc := 121) (L' := [(3, vI (1 : Int32)), (6, vI ((x1 * (40 : Int32)) + (I a19 (Int32.toNatClampNeg (x2 + (-1 : Int32)))))), (2, vI (x2 + (-1 : Int32))), (0, vR (some t)), (1, vI x1), (4, vI x4), (5, vI x5)]) dX6_firstWrong_121 rfl (by decide) rfl ?_
          refine r_goto (pc := 122) (tgt := 143) dX6_firstWrong_122 rfl ?_
          refine r_iinc (pc := 143) (v := (x4 + (1 : Int32))) (L' := [(4, vI (x4 + (1 : Int32))), (3, vI (1 : Int32)), (6, vI ((x1 * (40 : Int32)) + (I a19 (Int32.toNatClampNeg (x2 + (-1 : Int32)))))), (2, vI (x2 + (-1 : Int32))), (0, vR (some t)), (1, vI x1), (5, vI x5)]) dX6_firstWrong_143 5 rfl (kc_inc_1 _) (by decide) rfl ?_
          refine r_goto (pc := 146) (tgt := 7) dX6_firstWrong_146 rfl ?_
          refine r_sub [4, 5, 3, 1, 0] rfl ?_
          exact hq7 _ _ _ _ _ h
    · have h := it h c
      refine r_iload (pc := 64) dX6_firstWrong_64 4 rfl ?_
      cases h
      exact r_iret dX6_firstWrong_66
def fX6_firstWrong_l7  (σ : Shp) (R : Nat → Nat → Option Nat) (t : Nat) : Nat → (Nat → Nat → Int32) → (Int32) → (Int32) → (Int32) → (Int32) → Option ((Nat → Nat → Int32) × (Int32))
  | 0, _, _, _, _, _ => none
  | n + 1, I, x1, x2, x3, x4 =>
    if kdx σ t = 7 then
    ((R t 0) : Option Nat).bind fun a2 =>
    if kdx σ a2 = 20 then
    if ¬ (x1 < 0 ∨ lnx σ a2 ≤ Int32.toNatClampNeg x1) then
    if (I a2 (Int32.toNatClampNeg x1)) ≤ x4 then
      if x2 = 0 then
        some (I, (-1 : Int32))
      else
        some (I, (I a2 (Int32.toNatClampNeg x1)))
    else
      ((R t 1) : Option Nat).bind fun a5 =>
      if kdx σ a5 = 20 then
      if ¬ (((x1 * (40 : Int32)) + x4) < 0 ∨ lnx σ a5 ≤ Int32.toNatClampNeg ((x1 * (40 : Int32)) + x4)) then
      let v8 := (I a5 (Int32.toNatClampNeg ((x1 * (40 : Int32)) + x4)))
      if v8 = (17 : Int32) then
        if x3 = 0 then
          some (I, x4)
        else
          fX6_firstWrong_b53 (fX6_firstWrong_l7 σ R t n) σ R t I x1 x2 x4 v8
      else
        if v8 = (18 : Int32) then
          if x3 = 0 then
            some (I, x4)
          else
            fX6_firstWrong_b53 (fX6_firstWrong_l7 σ R t n) σ R t I x1 x2 x4 v8
        else
          fX6_firstWrong_b53 (fX6_firstWrong_l7 σ R t n) σ R t I x1 x2 x4 v8
      else none
      else none
    else none
    else none
    else none
theorem wX6_firstWrong_l7 {G : Gx} {l : Launch} {σ : Shp} {J : Nat → Nat → Int64} {D : Nat → Nat → UInt64} {R : Nat → Nat → Option Nat} {t : Nat} {I9 : Nat → Nat → Int32} {r9 : Int32} : ∀ (n : Nat) (I : Nat → Nat → Int32) (x1 : Int32) (x2 : Int32) (x3 : Int32) (x4 : Int32), fX6_firstWrong_l7 σ R t n I x1 x2 x3 x4 = some (I9, r9) → WX6_firstWrong G l σ (σ, I9, J, D, R) (some (vI r9)) (σ, I, J, D, R) 7 [(0, vR (some t)), (1, vI x1), (2, vI x2), (3, vI x3), (4, vI x4)] [] := by
  intro n
  induction n with
  | zero =>
    intro I x1 x2 x3 x4 h
    have h : none = some _ := h
    cases h
  | succ n ih =>
    intro I x1 x2 x3 x4 h
    rw [fX6_firstWrong_l7] at h
    refine r_iload (pc := 7) dX6_firstWrong_7 4 rfl ?_
    refine r_aload_n (pc := 9) dX6_firstWrong_9 rfl 0 rfl ?_
    obtain ⟨g1, h⟩ := gd h
    obtain ⟨a2, ha2, h⟩ := ob h
    refine r_getS (pc := 10) dX6_firstWrong_10 fgX6_11 rfl g1 ha2 ?_
    refine r_iload_n (pc := 13) dX6_firstWrong_13 rfl 1 rfl ?_
    obtain ⟨g3, h⟩ := gd h
    obtain ⟨g4, h⟩ := gd h
    refine r_iaload (pc := 14) dX6_firstWrong_14 g3 g4 ?_
    refine r_icmp_ge (pc := 15) (tgt := 149) dX6_firstWrong_15 rfl (fun c => ?_) (fun c => ?_)
    · have h := it h c
      refine r_iload_n (pc := 149) dX6_firstWrong_149 rfl 2 rfl ?_
      refine r_ifne (pc := 150) (tgt := 157) dX6_firstWrong_150 rfl (fun c => ?_) (fun c => ?_)
      · have h := ie h c
        refine r_aload_n (pc := 157) dX6_firstWrong_157 rfl 0 rfl ?_
        refine r_getS (pc := 158) dX6_firstWrong_158 fgX6_11 rfl g1 ha2 ?_
        refine r_iload_n (pc := 161) dX6_firstWrong_161 rfl 1 rfl ?_
        refine r_iaload (pc := 162) dX6_firstWrong_162 g3 g4 ?_
        cases h
        exact r_iret dX6_firstWrong_163
      · have h := it h c
        refine r_iconst (pc := 153) dX6_firstWrong_153 kc_iconst_m1 ?_
        refine r_goto (pc := 154) (tgt := 163) dX6_firstWrong_154 rfl ?_
        cases h
        exact r_iret dX6_firstWrong_163
    · have h := ie h c
      refine r_aload_n (pc := 18) dX6_firstWrong_18 rfl 0 rfl ?_
      obtain ⟨a5, ha5, h⟩ := ob h
      refine r_getS (pc := 19) dX6_firstWrong_19 fgX6_15 rfl g1 ha5 ?_
      refine r_iload_n (pc := 22) dX6_firstWrong_22 rfl 1 rfl ?_
      refine r_bipush (pc := 23) dX6_firstWrong_23 kc_bipush_40 ?_
      refine r_imul (pc := 25) dX6_firstWrong_25 ?_
      refine r_iload (pc := 26) dX6_firstWrong_26 4 rfl ?_
      refine r_iadd (pc := 28) dX6_firstWrong_28 ?_
      obtain ⟨g6, h⟩ := gd h
      obtain ⟨g7, h⟩ := gd h
      refine r_iaload (pc := 29) dX6_firstWrong_29 g6 g7 ?_
      refine r_istore (pc := 30) (L' := [(5, vI (I a5 (Int32.toNatClampNeg ((x1 * (40 : Int32)) + x4)))), (0, vR (some t)), (1, vI x1), (2, vI x2), (3, vI x3), (4, vI x4)]) dX6_firstWrong_30 (by decide) rfl ?_
      refine r_iload (pc := 32) dX6_firstWrong_32 0 rfl ?_
      refine r_bipush (pc := 34) dX6_firstWrong_34 kc_bipush_17 ?_
      refine r_icmp_eq (pc := 36) (tgt := 46) dX6_firstWrong_36 rfl (fun c => ?_) (fun c => ?_)
      · have h := it h c
        refine r_iload_n (pc := 46) dX6_firstWrong_46 rfl 4 rfl ?_
        refine r_ifne (pc := 47) (tgt := 53) dX6_firstWrong_47 rfl (fun c => ?_) (fun c => ?_)
        · have h := ie h c
          refine r_sub [1, 2, 3, 5, 0] rfl ?_
          exact wX6_firstWrong_b53 ih h
        · have h := it h c
          refine r_iload (pc := 50) dX6_firstWrong_50 5 rfl ?_
          cases h
          exact r_iret dX6_firstWrong_52
      · have h := ie h c
        refine r_iload (pc := 39) dX6_firstWrong_39 0 rfl ?_
        refine r_bipush (pc := 41) dX6_firstWrong_41 kc_bipush_18 ?_
        refine r_icmp_ne (pc := 43) (tgt := 53) dX6_firstWrong_43 rfl (fun c => ?_) (fun c => ?_)
        · have h := ie h c
          refine r_sub [1, 2, 3, 5, 0] rfl ?_
          exact wX6_firstWrong_b53 ih h
        · have h := it h c
          refine r_iload_n (pc := 46) dX6_firstWrong_46 rfl 4 rfl ?_
          refine r_ifne (pc := 47) (tgt := 53) dX6_firstWrong_47 rfl (fun c => ?_) (fun c => ?_)
          · have h := ie h c
            refine r_sub [1, 2, 3, 5, 0] rfl ?_
            exact wX6_firstWrong_b53 ih h
          · have h := it h c
            refine r_iload (pc := 50) dX6_firstWrong_50 5 rfl ?_
            cases h
            exact r_iret dX6_firstWrong_52
def fX6_firstWrong (σ : Shp) (I : Nat → Nat → Int32) (R : Nat → Nat → Option Nat) (t : Nat) (x1 : Int32) : Option ((Nat → Nat → Int32) × (Int32)) :=
  fX6_firstWrong_l7 σ R t FUx I x1 (0 : Int32) (0 : Int32) (0 : Int32)
theorem kX6_firstWrong {G : Gx} {l : Launch} {σ : Shp} {I : Nat → Nat → Int32} {J : Nat → Nat → Int64} {D : Nat → Nat → UInt64} {R : Nat → Nat → Option Nat} {t : Nat} {x1 : Int32} {I9 : Nat → Nat → Int32} {r9 : Int32} (h : fX6_firstWrong σ I R t x1 = some (I9, r9)) : Con G l yX6_firstWrong cX6_firstWrong 7 (some .int) 0 0 [vR (some t), vI x1] (σ, I, J, D, R) (σ, I9, J, D, R) (some (vI r9)) := by
  unfold fX6_firstWrong at h
  refine Con.mk (by decide +kernel) rfl (Nat.le_of_ble_eq_true rfl) ?_
  show WX6_firstWrong G l σ (σ, I9, J, D, R) (some (vI r9)) (σ, I, J, D, R) 0 _ []
  refine r_iconst (pc := 0) dX6_firstWrong_0 kc_iconst_0 ?_
  refine r_istore_n (pc := 1) (L' := [(2, vI (0 : Int32)), (0, vR (some t)), (1, vI x1)]) dX6_firstWrong_1 rfl (by decide) rfl ?_
  refine r_iconst (pc := 2) dX6_firstWrong_2 kc_iconst_0 ?_
  refine r_istore_n (pc := 3) (L' := [(3, vI (0 : Int32)), (2, vI (0 : Int32)), (0, vR (some t)), (1, vI x1)]) dX6_firstWrong_3 rfl (by decide) rfl ?_
  refine r_iconst (pc := 4) dX6_firstWrong_4 kc_iconst_0 ?_
  refine r_istore (pc := 5) (L' := [(4, vI (0 : Int32)), (3, vI (0 : Int32)), (2, vI (0 : Int32)), (0, vR (some t)), (1, vI x1)]) dX6_firstWrong_5 (by decide) rfl ?_
  refine r_sub [3, 4, 2, 1, 0] rfl ?_
  exact wX6_firstWrong_l7 _ _ _ _ _ _ h
abbrev WX8_init (G : Gx) (l : Launch) (σ0 : Shp) (X1 : Stt) (rv : Option SV) : Stt → Nat → List (Nat × SV) → List SV → Prop := Wm G l yX8_init cX8_init 1 none (fun _ => True) (rmx 1 20 σ0 X1.1) σ0 (Qmx G σ0 X1 rv)
def fX8_init_b51  (σ : Shp) (R : Nat → Nat → Option Nat) (s0 : Nat) (s1 : Nat) : Option ((Shp) × (Nat → Nat → Option Nat)) :=
  if kdx σ s0 = 9 then
  let R18 := u2 R s0 5 (some s1)
  some (σ, R18)
  else none
theorem mX8_init_b51 {σ : Shp} {R : Nat → Nat → Option Nat} {σ9 : Shp} {R9 : Nat → Nat → Option Nat} {s0 : Nat} {s1 : Nat} (h : fX8_init_b51 σ R s0 s1 = some (σ9, R9)) : Lex σ σ9 := by
  unfold fX8_init_b51 at h
  replace h := (gd h).2
  cases h
  exact ⟨Nat.le_refl _, Nat.le_refl _⟩
theorem wX8_init_b51 {G : Gx} {l : Launch} {σ0 : Shp} {σ : Shp} {I : Nat → Nat → Int32} {J : Nat → Nat → Int64} {D : Nat → Nat → UInt64} {R : Nat → Nat → Option Nat} {σ9 : Shp} {R9 : Nat → Nat → Option Nat} {s0 : Nat} {s1 : Nat} (h : fX8_init_b51 σ R s0 s1 = some (σ9, R9)) : WX8_init G l σ0 (σ9, I, J, D, R9) none (σ, I, J, D, R) 51 [] [vR (some s1), vR (some s0)] := by
  unfold fX8_init_b51 at h
  obtain ⟨g17, h⟩ := gd h
  refine r_putRF (pc := 51) dX8_init_51 fwX8_29 rfl rfl g17 ?_
  cases h
  exact r_vret dX8_init_54
def fX8_init_b42  (t : Nat) (σ : Shp) (R : Nat → Nat → Option Nat) (s0 : Nat) (s1 : Nat) : Option ((Shp) × (Nat → Nat → Option Nat)) :=
  if kdx σ s0 = 9 then
  let R15 := u2 R s0 4 (some s1)
  let σ16 := mkA σ 21 (Int32.toNatClampNeg (640 : Int32))
  fX8_init_b51 σ16 R15 t (nxx σ + 4)
  else none
theorem mX8_init_b42 {σ : Shp} {R : Nat → Nat → Option Nat} {t : Nat} {σ9 : Shp} {R9 : Nat → Nat → Option Nat} {s0 : Nat} {s1 : Nat} (h : fX8_init_b42 t σ R s0 s1 = some (σ9, R9)) : Lex σ σ9 := by
  unfold fX8_init_b42 at h
  replace h := (gd h).2
  exact Lex_mkA (mX8_init_b51 h)
theorem wX8_init_b42 {G : Gx} {l : Launch} {σ0 : Shp} {σ : Shp} {I : Nat → Nat → Int32} {J : Nat → Nat → Int64} {D : Nat → Nat → UInt64} {R : Nat → Nat → Option Nat} {t : Nat} {σ9 : Shp} {R9 : Nat → Nat → Option Nat} {s0 : Nat} {s1 : Nat} (h : fX8_init_b42 t σ R s0 s1 = some (σ9, R9)) : WX8_init G l σ0 (σ9, I, J, D, R9) none (σ, I, J, D, R) 42 [(0, vR (some t))] [vR (some s1), vR (some s0)] := by
  unfold fX8_init_b42 at h
  obtain ⟨g14, h⟩ := gd h
  refine r_putRF (pc := 42) dX8_init_42 fwX8_26 rfl rfl g14 ?_
  refine r_aload_n (pc := 45) dX8_init_45 rfl 0 rfl ?_
  refine r_sipush (pc := 46) dX8_init_46 kc_sipush_640 ?_
  refine r_newa (pc := 49) (t := 21) (ti := 1) (ty := .long) dX8_init_49 rfl (by decide) ac21 (by decide) (by decide) (Nat.sub_le_sub_right (mX8_init_b51 h).1 _) (Nat.sub_le_sub_right (mX8_init_b51 h).2 _) ?_
  refine r_sub [] rfl ?_
  exact wX8_init_b51 h
def fX8_init_b33  (t : Nat) (σ : Shp) (R : Nat → Nat → Option Nat) (s0 : Nat) (s1 : Nat) : Option ((Shp) × (Nat → Nat → Option Nat)) :=
  if kdx σ s0 = 9 then
  let R12 := u2 R s0 3 (some s1)
  let σ13 := mkA σ 20 (Int32.toNatClampNeg (640 : Int32))
  fX8_init_b42 t σ13 R12 t (nxx σ + 4)
  else none
theorem mX8_init_b33 {σ : Shp} {R : Nat → Nat → Option Nat} {t : Nat} {σ9 : Shp} {R9 : Nat → Nat → Option Nat} {s0 : Nat} {s1 : Nat} (h : fX8_init_b33 t σ R s0 s1 = some (σ9, R9)) : Lex σ σ9 := by
  unfold fX8_init_b33 at h
  replace h := (gd h).2
  exact Lex_mkA (mX8_init_b42 h)
theorem wX8_init_b33 {G : Gx} {l : Launch} {σ0 : Shp} {σ : Shp} {I : Nat → Nat → Int32} {J : Nat → Nat → Int64} {D : Nat → Nat → UInt64} {R : Nat → Nat → Option Nat} {t : Nat} {σ9 : Shp} {R9 : Nat → Nat → Option Nat} {s0 : Nat} {s1 : Nat} (h : fX8_init_b33 t σ R s0 s1 = some (σ9, R9)) : WX8_init G l σ0 (σ9, I, J, D, R9) none (σ, I, J, D, R) 33 [(0, vR (some t))] [vR (some s1), vR (some s0)] := by
  unfold fX8_init_b33 at h
  obtain ⟨g11, h⟩ := gd h
  refine r_putRF (pc := 33) dX8_init_33 fwX8_22 rfl rfl g11 ?_
  refine r_aload_n (pc := 36) dX8_init_36 rfl 0 rfl ?_
  refine r_sipush (pc := 37) dX8_init_37 kc_sipush_640 ?_
  refine r_newa (pc := 40) (t := 20) (ti := 0) (ty := .int) dX8_init_40 rfl (by decide) ac20 (by decide) (by decide) (Nat.sub_le_sub_right (mX8_init_b42 h).1 _) (Nat.sub_le_sub_right (mX8_init_b42 h).2 _) ?_
  refine r_sub [0] rfl ?_
  exact wX8_init_b42 h
def fX8_init_b23  (t : Nat) (σ : Shp) (R : Nat → Nat → Option Nat) (s0 : Nat) (s1 : Nat) : Option ((Shp) × (Nat → Nat → Option Nat)) :=
  if kdx σ s0 = 9 then
  let R9 := u2 R s0 2 (some s1)
  let σ10 := mkA σ 26 (Int32.toNatClampNeg (640 : Int32))
  fX8_init_b33 t σ10 R9 t (nxx σ + 4)
  else none
theorem mX8_init_b23 {σ : Shp} {R : Nat → Nat → Option Nat} {t : Nat} {σ9 : Shp} {R9 : Nat → Nat → Option Nat} {s0 : Nat} {s1 : Nat} (h : fX8_init_b23 t σ R s0 s1 = some (σ9, R9)) : Lex σ σ9 := by
  unfold fX8_init_b23 at h
  replace h := (gd h).2
  exact Lex_mkA (mX8_init_b33 h)
theorem wX8_init_b23 {G : Gx} {l : Launch} {σ0 : Shp} {σ : Shp} {I : Nat → Nat → Int32} {J : Nat → Nat → Int64} {D : Nat → Nat → UInt64} {R : Nat → Nat → Option Nat} {t : Nat} {σ9 : Shp} {R9 : Nat → Nat → Option Nat} {s0 : Nat} {s1 : Nat} (h : fX8_init_b23 t σ R s0 s1 = some (σ9, R9)) : WX8_init G l σ0 (σ9, I, J, D, R9) none (σ, I, J, D, R) 23 [(0, vR (some t))] [vR (some s1), vR (some s0)] := by
  unfold fX8_init_b23 at h
  obtain ⟨g8, h⟩ := gd h
  refine r_putRF (pc := 23) dX8_init_23 fwX8_17 rfl rfl g8 ?_
  refine r_aload_n (pc := 26) dX8_init_26 rfl 0 rfl ?_
  refine r_sipush (pc := 27) dX8_init_27 kc_sipush_640 ?_
  refine r_anewa (pc := 30) (t := 26) dX8_init_30 (by decide) cnX8_20 (by decide) (by decide) (Nat.sub_le_sub_right (mX8_init_b33 h).1 _) (Nat.sub_le_sub_right (mX8_init_b33 h).2 _) ?_
  refine r_sub [0] rfl ?_
  exact wX8_init_b33 h
def fX8_init_b16  (t : Nat) (σ : Shp) (R : Nat → Nat → Option Nat) (s0 : Nat) (s1 : Nat) : Option ((Shp) × (Nat → Nat → Option Nat)) :=
  if kdx σ s0 = 9 then
  let R6 := u2 R s0 1 (some s1)
  let σ7 := mkA σ 20 (Int32.toNatClampNeg (3 : Int32))
  fX8_init_b23 t σ7 R6 t (nxx σ + 4)
  else none
theorem mX8_init_b16 {σ : Shp} {R : Nat → Nat → Option Nat} {t : Nat} {σ9 : Shp} {R9 : Nat → Nat → Option Nat} {s0 : Nat} {s1 : Nat} (h : fX8_init_b16 t σ R s0 s1 = some (σ9, R9)) : Lex σ σ9 := by
  unfold fX8_init_b16 at h
  replace h := (gd h).2
  exact Lex_mkA (mX8_init_b23 h)
theorem wX8_init_b16 {G : Gx} {l : Launch} {σ0 : Shp} {σ : Shp} {I : Nat → Nat → Int32} {J : Nat → Nat → Int64} {D : Nat → Nat → UInt64} {R : Nat → Nat → Option Nat} {t : Nat} {σ9 : Shp} {R9 : Nat → Nat → Option Nat} {s0 : Nat} {s1 : Nat} (h : fX8_init_b16 t σ R s0 s1 = some (σ9, R9)) : WX8_init G l σ0 (σ9, I, J, D, R9) none (σ, I, J, D, R) 16 [(0, vR (some t))] [vR (some s1), vR (some s0)] := by
  unfold fX8_init_b16 at h
  obtain ⟨g5, h⟩ := gd h
  refine r_putRF (pc := 16) dX8_init_16 fwX8_13 rfl rfl g5 ?_
  refine r_aload_n (pc := 19) dX8_init_19 rfl 0 rfl ?_
  refine r_iconst (pc := 20) dX8_init_20 kc_iconst_3 ?_
  refine r_newa (pc := 21) (t := 20) (ti := 0) (ty := .int) dX8_init_21 rfl (by decide) ac20 (by decide) (by decide) (Nat.sub_le_sub_right (mX8_init_b23 h).1 _) (Nat.sub_le_sub_right (mX8_init_b23 h).2 _) ?_
  refine r_sub [0] rfl ?_
  exact wX8_init_b23 h
def fX8_init_b9  (t : Nat) (σ : Shp) (R : Nat → Nat → Option Nat) (s0 : Nat) (s1 : Nat) : Option ((Shp) × (Nat → Nat → Option Nat)) :=
  if kdx σ s0 = 9 then
  let R3 := u2 R s0 0 (some s1)
  let σ4 := mkA σ 20 (Int32.toNatClampNeg (3 : Int32))
  fX8_init_b16 t σ4 R3 t (nxx σ + 4)
  else none
theorem mX8_init_b9 {σ : Shp} {R : Nat → Nat → Option Nat} {t : Nat} {σ9 : Shp} {R9 : Nat → Nat → Option Nat} {s0 : Nat} {s1 : Nat} (h : fX8_init_b9 t σ R s0 s1 = some (σ9, R9)) : Lex σ σ9 := by
  unfold fX8_init_b9 at h
  replace h := (gd h).2
  exact Lex_mkA (mX8_init_b16 h)
theorem wX8_init_b9 {G : Gx} {l : Launch} {σ0 : Shp} {σ : Shp} {I : Nat → Nat → Int32} {J : Nat → Nat → Int64} {D : Nat → Nat → UInt64} {R : Nat → Nat → Option Nat} {t : Nat} {σ9 : Shp} {R9 : Nat → Nat → Option Nat} {s0 : Nat} {s1 : Nat} (h : fX8_init_b9 t σ R s0 s1 = some (σ9, R9)) : WX8_init G l σ0 (σ9, I, J, D, R9) none (σ, I, J, D, R) 9 [(0, vR (some t))] [vR (some s1), vR (some s0)] := by
  unfold fX8_init_b9 at h
  obtain ⟨g2, h⟩ := gd h
  refine r_putRF (pc := 9) dX8_init_9 fwX8_9 rfl rfl g2 ?_
  refine r_aload_n (pc := 12) dX8_init_12 rfl 0 rfl ?_
  refine r_iconst (pc := 13) dX8_init_13 kc_iconst_3 ?_
  refine r_newa (pc := 14) (t := 20) (ti := 0) (ty := .int) dX8_init_14 rfl (by decide) ac20 (by decide) (by decide) (Nat.sub_le_sub_right (mX8_init_b16 h).1 _) (Nat.sub_le_sub_right (mX8_init_b16 h).2 _) ?_
  refine r_sub [0] rfl ?_
  exact wX8_init_b16 h
def fX8_init (σ : Shp) (R : Nat → Nat → Option Nat) (t : Nat)  : Option ((Shp) × (Nat → Nat → Option Nat)) :=
  let σ1 := mkA σ 21 (Int32.toNatClampNeg (6 : Int32))
  fX8_init_b9 t σ1 R t (nxx σ + 4)
theorem mX8_init {σ : Shp} {R : Nat → Nat → Option Nat} {t : Nat}  {σ9 : Shp} {R9 : Nat → Nat → Option Nat} (h : fX8_init σ R t = some (σ9, R9)) : Lex σ σ9 := by
  unfold fX8_init at h
  exact Lex_mkA (mX8_init_b9 h)
theorem kX8_init {G : Gx} {l : Launch} {σ : Shp} {I : Nat → Nat → Int32} {J : Nat → Nat → Int64} {D : Nat → Nat → UInt64} {R : Nat → Nat → Option Nat} {t : Nat}  {σ9 : Shp} {R9 : Nat → Nat → Option Nat} (h : fX8_init σ R t = some (σ9, R9)) : Con G l yX8_init cX8_init 1 none 1 20 [vR (some t)] (σ, I, J, D, R) (σ9, I, J, D, R9) none := by
  unfold fX8_init at h
  refine Con.mk (by decide +kernel) rfl (Nat.le_of_ble_eq_true rfl) ?_
  show WX8_init G l σ (σ9, I, J, D, R9) none (σ, I, J, D, R) 0 _ []
  refine r_aload_n (pc := 0) dX8_init_0 rfl 0 rfl ?_
  refine r_objInit (pc := 1) (S := []) dX8_init_1 obX8_1 obI obC (Nat.le_of_ble_eq_true rfl) (Nat.le_of_ble_eq_true rfl) (Nat.le_of_ble_eq_true rfl) ?_
  refine r_aload_n (pc := 4) dX8_init_4 rfl 0 rfl ?_
  refine r_bipush (pc := 5) dX8_init_5 kc_bipush_6 ?_
  refine r_newa (pc := 7) (t := 21) (ti := 1) (ty := .long) dX8_init_7 rfl (by decide) ac21 (by decide) (by decide) (Nat.sub_le_sub_right (mX8_init_b9 h).1 _) (Nat.sub_le_sub_right (mX8_init_b9 h).2 _) ?_
  refine r_sub [0] rfl ?_
  exact wX8_init_b9 h
abbrev WX7_init (G : Gx) (l : Launch) (σ0 : Shp) (X1 : Stt) (rv : Option SV) : Stt → Nat → List (Nat × SV) → List SV → Prop := Wm G l yX7_init cX7_init 1 none (fun _ => True) (rmx 2 40 σ0 X1.1) σ0 (Qmx G σ0 X1 rv)
def fX7_init_b61  (σ : Shp) (R : Nat → Nat → Option Nat) (s0 : Nat) (s1 : Nat) : Option ((Shp) × (Nat → Nat → Option Nat)) :=
  if kdx σ s0 = 8 then
  let R30 := u2 R s0 5 (some s1)
  some (σ, R30)
  else none
theorem mX7_init_b61 {σ : Shp} {R : Nat → Nat → Option Nat} {σ9 : Shp} {R9 : Nat → Nat → Option Nat} {s0 : Nat} {s1 : Nat} (h : fX7_init_b61 σ R s0 s1 = some (σ9, R9)) : Lex σ σ9 := by
  unfold fX7_init_b61 at h
  replace h := (gd h).2
  cases h
  exact ⟨Nat.le_refl _, Nat.le_refl _⟩
theorem wX7_init_b61 {G : Gx} {l : Launch} {σ0 : Shp} {σ : Shp} {I : Nat → Nat → Int32} {J : Nat → Nat → Int64} {D : Nat → Nat → UInt64} {R : Nat → Nat → Option Nat} {σ9 : Shp} {R9 : Nat → Nat → Option Nat} {s0 : Nat} {s1 : Nat} (h : fX7_init_b61 σ R s0 s1 = some (σ9, R9)) : WX7_init G l σ0 (σ9, I, J, D, R9) none (σ, I, J, D, R) 61 [] [vR (some s1), vR (some s0)] := by
  unfold fX7_init_b61 at h
  obtain ⟨g29, h⟩ := gd h
  refine r_putRF (pc := 61) dX7_init_61 fwX7_44 rfl rfl g29 ?_
  cases h
  exact r_vret dX7_init_64
def fX7_init_b53  (t : Nat) (σ : Shp) (R : Nat → Nat → Option Nat) (s0 : Nat) (s1 : Nat) : Option ((Shp) × (Nat → Nat → Option Nat)) :=
  if kdx σ s0 = 8 then
  let R27 := u2 R s0 4 (some s1)
  let σ28 := mkA σ 20 (Int32.toNatClampNeg (6 : Int32))
  fX7_init_b61 σ28 R27 t (nxx σ + 4)
  else none
theorem mX7_init_b53 {σ : Shp} {R : Nat → Nat → Option Nat} {t : Nat} {σ9 : Shp} {R9 : Nat → Nat → Option Nat} {s0 : Nat} {s1 : Nat} (h : fX7_init_b53 t σ R s0 s1 = some (σ9, R9)) : Lex σ σ9 := by
  unfold fX7_init_b53 at h
  replace h := (gd h).2
  exact Lex_mkA (mX7_init_b61 h)
theorem wX7_init_b53 {G : Gx} {l : Launch} {σ0 : Shp} {σ : Shp} {I : Nat → Nat → Int32} {J : Nat → Nat → Int64} {D : Nat → Nat → UInt64} {R : Nat → Nat → Option Nat} {t : Nat} {σ9 : Shp} {R9 : Nat → Nat → Option Nat} {s0 : Nat} {s1 : Nat} (h : fX7_init_b53 t σ R s0 s1 = some (σ9, R9)) : WX7_init G l σ0 (σ9, I, J, D, R9) none (σ, I, J, D, R) 53 [(0, vR (some t))] [vR (some s1), vR (some s0)] := by
  unfold fX7_init_b53 at h
  obtain ⟨g26, h⟩ := gd h
  refine r_putRF (pc := 53) dX7_init_53 fwX7_40 rfl rfl g26 ?_
  refine r_aload_n (pc := 56) dX7_init_56 rfl 0 rfl ?_
  refine r_bipush (pc := 57) dX7_init_57 kc_bipush_6 ?_
  refine r_newa (pc := 59) (t := 20) (ti := 0) (ty := .int) dX7_init_59 rfl (by decide) ac20 (by decide) (by decide) (Nat.sub_le_sub_right (mX7_init_b61 h).1 _) (Nat.sub_le_sub_right (mX7_init_b61 h).2 _) ?_
  refine r_sub [] rfl ?_
  exact wX7_init_b61 h
def fX7_init_b43  (t : Nat) (σ : Shp) (R : Nat → Nat → Option Nat) (s0 : Nat) (s1 : Nat) : Option ((Shp) × (Nat → Nat → Option Nat)) :=
  if kdx σ s0 = 8 then
  let R24 := u2 R s0 3 (some s1)
  let σ25 := mkA σ 27 (Int32.toNatClampNeg (160 : Int32))
  fX7_init_b53 t σ25 R24 t (nxx σ + 4)
  else none
theorem mX7_init_b43 {σ : Shp} {R : Nat → Nat → Option Nat} {t : Nat} {σ9 : Shp} {R9 : Nat → Nat → Option Nat} {s0 : Nat} {s1 : Nat} (h : fX7_init_b43 t σ R s0 s1 = some (σ9, R9)) : Lex σ σ9 := by
  unfold fX7_init_b43 at h
  replace h := (gd h).2
  exact Lex_mkA (mX7_init_b53 h)
theorem wX7_init_b43 {G : Gx} {l : Launch} {σ0 : Shp} {σ : Shp} {I : Nat → Nat → Int32} {J : Nat → Nat → Int64} {D : Nat → Nat → UInt64} {R : Nat → Nat → Option Nat} {t : Nat} {σ9 : Shp} {R9 : Nat → Nat → Option Nat} {s0 : Nat} {s1 : Nat} (h : fX7_init_b43 t σ R s0 s1 = some (σ9, R9)) : WX7_init G l σ0 (σ9, I, J, D, R9) none (σ, I, J, D, R) 43 [(0, vR (some t))] [vR (some s1), vR (some s0)] := by
  unfold fX7_init_b43 at h
  obtain ⟨g23, h⟩ := gd h
  refine r_putRF (pc := 43) dX7_init_43 fwX7_34 rfl rfl g23 ?_
  refine r_aload_n (pc := 46) dX7_init_46 rfl 0 rfl ?_
  refine r_sipush (pc := 47) dX7_init_47 kc_sipush_160 ?_
  refine r_anewa (pc := 50) (t := 27) dX7_init_50 (by decide) cnX7_38 (by decide) (by decide) (Nat.sub_le_sub_right (mX7_init_b53 h).1 _) (Nat.sub_le_sub_right (mX7_init_b53 h).2 _) ?_
  refine r_sub [0] rfl ?_
  exact wX7_init_b53 h
def fX7_init_b39  (t : Nat) (σ : Shp) (R : Nat → Nat → Option Nat) (s0 : Nat) (s1 : Nat) : Option ((Shp) × (Nat → Nat → Option Nat)) :=
  if kdx σ s1 = 9 then
  (fX8_init σ R s1).bind fun (σ20, R21) =>
  fX7_init_b43 t σ20 R21 s0 s1
  else none
theorem mX7_init_b39 {σ : Shp} {R : Nat → Nat → Option Nat} {t : Nat} {σ9 : Shp} {R9 : Nat → Nat → Option Nat} {s0 : Nat} {s1 : Nat} (h : fX7_init_b39 t σ R s0 s1 = some (σ9, R9)) : Lex σ σ9 := by
  unfold fX7_init_b39 at h
  replace h := (gd h).2
  obtain ⟨⟨σ20, R21⟩, hc22, h⟩ := ob h
  refine Lex.trans (mX8_init hc22) ?_
  exact mX7_init_b43 h
theorem wX7_init_b39 {G : Gx} {l : Launch} {σ0 : Shp} {σ : Shp} {I : Nat → Nat → Int32} {J : Nat → Nat → Int64} {D : Nat → Nat → UInt64} {R : Nat → Nat → Option Nat} {t : Nat} {σ9 : Shp} {R9 : Nat → Nat → Option Nat} {s0 : Nat} {s1 : Nat} (h : fX7_init_b39 t σ R s0 s1 = some (σ9, R9)) : WX7_init G l σ0 (σ9, I, J, D, R9) none (σ, I, J, D, R) 39 [(0, vR (some t))] [vR (some s1), vR (some s0)] := by
  unfold fX7_init_b39 at h
  refine r_dup (pc := 39) dX7_init_39 rfl ?_
  obtain ⟨g19, h⟩ := gd h
  obtain ⟨⟨σ20, R21⟩, hc22, h⟩ := ob h
  refine r_callIN0 (pc := 40) (av := []) (S := [vR (some s1), vR (some s0)]) dX7_init_40 (kX8_init hc22) nkX7_33 rfl mwX8_init rfl ⟨Nat.le_of_ble_eq_true rfl, Nat.le_of_ble_eq_true rfl⟩ (Nat.le_of_ble_eq_true rfl) (mX8_init hc22) (bdx_le (mX8_init hc22) (mX7_init_b43 h)) ?_
  refine r_sub [0] rfl ?_
  exact wX7_init_b43 h
def fX7_init_b32  (t : Nat) (σ : Shp) (R : Nat → Nat → Option Nat) (s0 : Nat) (s1 : Nat) : Option ((Shp) × (Nat → Nat → Option Nat)) :=
  if kdx σ s0 = 8 then
  let R17 := u2 R s0 2 (some s1)
  let σ18 := mkO σ 9 7
  fX7_init_b39 t σ18 R17 t (nxx σ + 4)
  else none
theorem mX7_init_b32 {σ : Shp} {R : Nat → Nat → Option Nat} {t : Nat} {σ9 : Shp} {R9 : Nat → Nat → Option Nat} {s0 : Nat} {s1 : Nat} (h : fX7_init_b32 t σ R s0 s1 = some (σ9, R9)) : Lex σ σ9 := by
  unfold fX7_init_b32 at h
  replace h := (gd h).2
  exact Lex_mkO (mX7_init_b39 h)
theorem wX7_init_b32 {G : Gx} {l : Launch} {σ0 : Shp} {σ : Shp} {I : Nat → Nat → Int32} {J : Nat → Nat → Int64} {D : Nat → Nat → UInt64} {R : Nat → Nat → Option Nat} {t : Nat} {σ9 : Shp} {R9 : Nat → Nat → Option Nat} {s0 : Nat} {s1 : Nat} (h : fX7_init_b32 t σ R s0 s1 = some (σ9, R9)) : WX7_init G l σ0 (σ9, I, J, D, R9) none (σ, I, J, D, R) 32 [(0, vR (some t))] [vR (some s1), vR (some s0)] := by
  unfold fX7_init_b32 at h
  obtain ⟨g16, h⟩ := gd h
  refine r_putRF (pc := 32) dX7_init_32 fwX7_27 rfl rfl g16 ?_
  refine r_aload_n (pc := 35) dX7_init_35 rfl 0 rfl ?_
  refine r_new (pc := 36) dX7_init_36 cls8 ftk8 cnX7_31 ins8 ini8 (Nat.sub_le_sub_right (mX7_init_b39 h).1 _) (Nat.sub_le_sub_right (mX7_init_b39 h).2 _) ?_
  refine r_sub [0] rfl ?_
  exact wX7_init_b39 h
def fX7_init_b28  (t : Nat) (σ : Shp) (R : Nat → Nat → Option Nat) (s0 : Nat) (s1 : Nat) : Option ((Shp) × (Nat → Nat → Option Nat)) :=
  if kdx σ s1 = 7 then
  (fX6_init σ R s1).bind fun (σ13, R14) =>
  fX7_init_b32 t σ13 R14 s0 s1
  else none
theorem mX7_init_b28 {σ : Shp} {R : Nat → Nat → Option Nat} {t : Nat} {σ9 : Shp} {R9 : Nat → Nat → Option Nat} {s0 : Nat} {s1 : Nat} (h : fX7_init_b28 t σ R s0 s1 = some (σ9, R9)) : Lex σ σ9 := by
  unfold fX7_init_b28 at h
  replace h := (gd h).2
  obtain ⟨⟨σ13, R14⟩, hc15, h⟩ := ob h
  refine Lex.trans (mX6_init hc15) ?_
  exact mX7_init_b32 h
theorem wX7_init_b28 {G : Gx} {l : Launch} {σ0 : Shp} {σ : Shp} {I : Nat → Nat → Int32} {J : Nat → Nat → Int64} {D : Nat → Nat → UInt64} {R : Nat → Nat → Option Nat} {t : Nat} {σ9 : Shp} {R9 : Nat → Nat → Option Nat} {s0 : Nat} {s1 : Nat} (h : fX7_init_b28 t σ R s0 s1 = some (σ9, R9)) : WX7_init G l σ0 (σ9, I, J, D, R9) none (σ, I, J, D, R) 28 [(0, vR (some t))] [vR (some s1), vR (some s0)] := by
  unfold fX7_init_b28 at h
  refine r_dup (pc := 28) dX7_init_28 rfl ?_
  obtain ⟨g12, h⟩ := gd h
  obtain ⟨⟨σ13, R14⟩, hc15, h⟩ := ob h
  refine r_callIN0 (pc := 29) (av := []) (S := [vR (some s1), vR (some s0)]) dX7_init_29 (kX6_init hc15) nkX7_26 rfl mwX6_init rfl ⟨Nat.le_of_ble_eq_true rfl, Nat.le_of_ble_eq_true rfl⟩ (Nat.le_of_ble_eq_true rfl) (mX6_init hc15) (bdx_le (mX6_init hc15) (mX7_init_b32 h)) ?_
  refine r_sub [0] rfl ?_
  exact wX7_init_b32 h
def fX7_init_b21  (t : Nat) (σ : Shp) (R : Nat → Nat → Option Nat) (s0 : Nat) (s1 : Nat) : Option ((Shp) × (Nat → Nat → Option Nat)) :=
  if kdx σ s0 = 8 then
  let R10 := u2 R s0 1 (some s1)
  let σ11 := mkO σ 7 7
  fX7_init_b28 t σ11 R10 t (nxx σ + 4)
  else none
theorem mX7_init_b21 {σ : Shp} {R : Nat → Nat → Option Nat} {t : Nat} {σ9 : Shp} {R9 : Nat → Nat → Option Nat} {s0 : Nat} {s1 : Nat} (h : fX7_init_b21 t σ R s0 s1 = some (σ9, R9)) : Lex σ σ9 := by
  unfold fX7_init_b21 at h
  replace h := (gd h).2
  exact Lex_mkO (mX7_init_b28 h)
theorem wX7_init_b21 {G : Gx} {l : Launch} {σ0 : Shp} {σ : Shp} {I : Nat → Nat → Int32} {J : Nat → Nat → Int64} {D : Nat → Nat → UInt64} {R : Nat → Nat → Option Nat} {t : Nat} {σ9 : Shp} {R9 : Nat → Nat → Option Nat} {s0 : Nat} {s1 : Nat} (h : fX7_init_b21 t σ R s0 s1 = some (σ9, R9)) : WX7_init G l σ0 (σ9, I, J, D, R9) none (σ, I, J, D, R) 21 [(0, vR (some t))] [vR (some s1), vR (some s0)] := by
  unfold fX7_init_b21 at h
  obtain ⟨g9, h⟩ := gd h
  refine r_putRF (pc := 21) dX7_init_21 fwX7_20 rfl rfl g9 ?_
  refine r_aload_n (pc := 24) dX7_init_24 rfl 0 rfl ?_
  refine r_new (pc := 25) dX7_init_25 cls6 ftk6 cnX7_24 ins6 ini6 (Nat.sub_le_sub_right (mX7_init_b28 h).1 _) (Nat.sub_le_sub_right (mX7_init_b28 h).2 _) ?_
  refine r_sub [0] rfl ?_
  exact wX7_init_b28 h
def fX7_init_b17  (t : Nat) (σ : Shp) (R : Nat → Nat → Option Nat) (s0 : Nat) (s1 : Nat) : Option ((Shp) × (Nat → Nat → Option Nat)) :=
  if kdx σ s1 = 1 then
  (fX0_init σ R s1).bind fun (σ6, R7) =>
  fX7_init_b21 t σ6 R7 s0 s1
  else none
theorem mX7_init_b17 {σ : Shp} {R : Nat → Nat → Option Nat} {t : Nat} {σ9 : Shp} {R9 : Nat → Nat → Option Nat} {s0 : Nat} {s1 : Nat} (h : fX7_init_b17 t σ R s0 s1 = some (σ9, R9)) : Lex σ σ9 := by
  unfold fX7_init_b17 at h
  replace h := (gd h).2
  obtain ⟨⟨σ6, R7⟩, hc8, h⟩ := ob h
  refine Lex.trans (mX0_init hc8) ?_
  exact mX7_init_b21 h
theorem wX7_init_b17 {G : Gx} {l : Launch} {σ0 : Shp} {σ : Shp} {I : Nat → Nat → Int32} {J : Nat → Nat → Int64} {D : Nat → Nat → UInt64} {R : Nat → Nat → Option Nat} {t : Nat} {σ9 : Shp} {R9 : Nat → Nat → Option Nat} {s0 : Nat} {s1 : Nat} (h : fX7_init_b17 t σ R s0 s1 = some (σ9, R9)) : WX7_init G l σ0 (σ9, I, J, D, R9) none (σ, I, J, D, R) 17 [(0, vR (some t))] [vR (some s1), vR (some s0)] := by
  unfold fX7_init_b17 at h
  refine r_dup (pc := 17) dX7_init_17 rfl ?_
  obtain ⟨g5, h⟩ := gd h
  obtain ⟨⟨σ6, R7⟩, hc8, h⟩ := ob h
  refine r_callIN0 (pc := 18) (av := []) (S := [vR (some s1), vR (some s0)]) dX7_init_18 (kX0_init hc8) nkX7_19 rfl mwX0_init rfl ⟨Nat.le_of_ble_eq_true rfl, Nat.le_of_ble_eq_true rfl⟩ (Nat.le_of_ble_eq_true rfl) (mX0_init hc8) (bdx_le (mX0_init hc8) (mX7_init_b21 h)) ?_
  refine r_sub [0] rfl ?_
  exact wX7_init_b21 h
def fX7_init_b10  (t : Nat) (σ : Shp) (R : Nat → Nat → Option Nat) (s0 : Nat) (s1 : Nat) : Option ((Shp) × (Nat → Nat → Option Nat)) :=
  if kdx σ s0 = 8 then
  let R3 := u2 R s0 0 (some s1)
  let σ4 := mkO σ 1 3
  fX7_init_b17 t σ4 R3 t (nxx σ + 4)
  else none
theorem mX7_init_b10 {σ : Shp} {R : Nat → Nat → Option Nat} {t : Nat} {σ9 : Shp} {R9 : Nat → Nat → Option Nat} {s0 : Nat} {s1 : Nat} (h : fX7_init_b10 t σ R s0 s1 = some (σ9, R9)) : Lex σ σ9 := by
  unfold fX7_init_b10 at h
  replace h := (gd h).2
  exact Lex_mkO (mX7_init_b17 h)
theorem wX7_init_b10 {G : Gx} {l : Launch} {σ0 : Shp} {σ : Shp} {I : Nat → Nat → Int32} {J : Nat → Nat → Int64} {D : Nat → Nat → UInt64} {R : Nat → Nat → Option Nat} {t : Nat} {σ9 : Shp} {R9 : Nat → Nat → Option Nat} {s0 : Nat} {s1 : Nat} (h : fX7_init_b10 t σ R s0 s1 = some (σ9, R9)) : WX7_init G l σ0 (σ9, I, J, D, R9) none (σ, I, J, D, R) 10 [(0, vR (some t))] [vR (some s1), vR (some s0)] := by
  unfold fX7_init_b10 at h
  obtain ⟨g2, h⟩ := gd h
  refine r_putRF (pc := 10) dX7_init_10 fwX7_11 rfl rfl g2 ?_
  refine r_aload_n (pc := 13) dX7_init_13 rfl 0 rfl ?_
  refine r_new (pc := 14) dX7_init_14 cls0 ftk0 cnX7_17 ins0 ini0 (Nat.sub_le_sub_right (mX7_init_b17 h).1 _) (Nat.sub_le_sub_right (mX7_init_b17 h).2 _) ?_
  refine r_sub [0] rfl ?_
  exact wX7_init_b17 h
def fX7_init (σ : Shp) (R : Nat → Nat → Option Nat) (t : Nat)  : Option ((Shp) × (Nat → Nat → Option Nat)) :=
  let σ1 := mkA σ 26 (Int32.toNatClampNeg (16 : Int32))
  fX7_init_b10 t σ1 R t (nxx σ + 4)
theorem mX7_init {σ : Shp} {R : Nat → Nat → Option Nat} {t : Nat}  {σ9 : Shp} {R9 : Nat → Nat → Option Nat} (h : fX7_init σ R t = some (σ9, R9)) : Lex σ σ9 := by
  unfold fX7_init at h
  exact Lex_mkA (mX7_init_b10 h)
theorem kX7_init {G : Gx} {l : Launch} {σ : Shp} {I : Nat → Nat → Int32} {J : Nat → Nat → Int64} {D : Nat → Nat → UInt64} {R : Nat → Nat → Option Nat} {t : Nat}  {σ9 : Shp} {R9 : Nat → Nat → Option Nat} (h : fX7_init σ R t = some (σ9, R9)) : Con G l yX7_init cX7_init 1 none 2 40 [vR (some t)] (σ, I, J, D, R) (σ9, I, J, D, R9) none := by
  unfold fX7_init at h
  refine Con.mk (by decide +kernel) rfl (Nat.le_of_ble_eq_true rfl) ?_
  show WX7_init G l σ (σ9, I, J, D, R9) none (σ, I, J, D, R) 0 _ []
  refine r_aload_n (pc := 0) dX7_init_0 rfl 0 rfl ?_
  refine r_objInit (pc := 1) (S := []) dX7_init_1 obX7_3 obI obC (Nat.le_of_ble_eq_true rfl) (Nat.le_of_ble_eq_true rfl) (Nat.le_of_ble_eq_true rfl) ?_
  refine r_aload_n (pc := 4) dX7_init_4 rfl 0 rfl ?_
  refine r_bipush (pc := 5) dX7_init_5 kc_bipush_16 ?_
  refine r_anewa (pc := 7) (t := 26) dX7_init_7 (by decide) cnX7_9 (by decide) (by decide) (Nat.sub_le_sub_right (mX7_init_b10 h).1 _) (Nat.sub_le_sub_right (mX7_init_b10 h).2 _) ?_
  refine r_sub [0] rfl ?_
  exact wX7_init_b10 h
abbrev WX8_changesSoFar (G : Gx) (l : Launch) (σ0 : Shp) (X1 : Stt) (rv : Option SV) : Stt → Nat → List (Nat × SV) → List SV → Prop := Wm G l yX8_changesSoFar cX8_changesSoFar 1 (some .int) (fun _ => True) (rmx 0 0 σ0 X1.1) σ0 (Qmx G σ0 X1 rv)
def fX8_changesSoFar (σ : Shp) (I : Nat → Nat → Int32) (t : Nat)  : Option ((Int32)) :=
  if kdx σ t = 9 then
  some (I t 6)
  else none
theorem kX8_changesSoFar {G : Gx} {l : Launch} {σ : Shp} {I : Nat → Nat → Int32} {J : Nat → Nat → Int64} {D : Nat → Nat → UInt64} {R : Nat → Nat → Option Nat} {t : Nat}  {r9 : Int32} (h : fX8_changesSoFar σ I t = some r9) : Con G l yX8_changesSoFar cX8_changesSoFar 1 (some .int) 0 0 [vR (some t)] (σ, I, J, D, R) (σ, I, J, D, R) (some (vI r9)) := by
  unfold fX8_changesSoFar at h
  refine Con.mk (by decide +kernel) rfl (Nat.le_of_ble_eq_true rfl) ?_
  show WX8_changesSoFar G l σ (σ, I, J, D, R) (some (vI r9)) (σ, I, J, D, R) 0 _ []
  refine r_aload_n (pc := 0) dX8_changesSoFar_0 rfl 0 rfl ?_
  obtain ⟨g1, h⟩ := gd h
  refine r_getI (pc := 1) dX8_changesSoFar_1 fgX8_32 rfl g1 ?_
  cases h
  exact r_iret dX8_changesSoFar_4
abbrev WX7_newTop (G : Gx) (l : Launch) (σ0 : Shp) (X1 : Stt) (rv : Option SV) : Stt → Nat → List (Nat × SV) → List SV → Prop := Wm G l yX7_newTop cX7_newTop 2 (some (.object "GlassHouse$Frame")) (fun _ => True) (rmx 2 40 σ0 X1.1) σ0 (Qmx G σ0 X1 rv)
def fX7_newTop_b51  (t : Nat) (σ : Shp) (I : Nat → Nat → Int32) (R : Nat → Nat → Option Nat) (x1 : Option Nat) : Option ((Shp) × (Nat → Nat → Int32) × (Nat → Nat → Option Nat) × (Option Nat)) :=
  if kdx σ t = 8 then
  let I19 := u2 I t 6 ((I t 6) + (1 : Int32))
  (x1 : Option Nat).bind fun a20 =>
  if kdx σ a20 = 4 then
  let I22 := u2 I19 a20 8 (0 : Int32)
  let I23 := u2 I22 a20 9 (1 : Int32)
  let I24 := u2 I23 a20 11 (0 : Int32)
  ((R t 3) : Option Nat).bind fun a25 =>
  if kdx σ a25 = 9 then
  (fX8_changesSoFar σ I24 a25).bind fun r27 =>
  let I29 := u2 I24 a20 10 r27
  some (σ, I29, R, (some a20))
  else none
  else none
  else none
theorem mX7_newTop_b51 {σ : Shp} {I : Nat → Nat → Int32} {R : Nat → Nat → Option Nat} {t : Nat} {σ9 : Shp} {I9 : Nat → Nat → Int32} {R9 : Nat → Nat → Option Nat} {r9 : Option Nat} {x1 : Option Nat} (h : fX7_newTop_b51 t σ I R x1 = some (σ9, I9, R9, r9)) : Lex σ σ9 := by
  unfold fX7_newTop_b51 at h
  replace h := (gd h).2
  obtain ⟨a20, ha20, h⟩ := ob h
  replace h := (gd h).2
  obtain ⟨a25, ha25, h⟩ := ob h
  replace h := (gd h).2
  obtain ⟨r27, hc28, h⟩ := ob h
  cases h
  exact ⟨Nat.le_refl _, Nat.le_refl _⟩
theorem wX7_newTop_b51 {G : Gx} {l : Launch} {σ0 : Shp} {σ : Shp} {I : Nat → Nat → Int32} {J : Nat → Nat → Int64} {D : Nat → Nat → UInt64} {R : Nat → Nat → Option Nat} {t : Nat} {σ9 : Shp} {I9 : Nat → Nat → Int32} {R9 : Nat → Nat → Option Nat} {r9 : Option Nat} {x1 : Option Nat} (h : fX7_newTop_b51 t σ I R x1 = some (σ9, I9, R9, r9)) : WX7_newTop G l σ0 (σ9, I9, J, D, R9) (some (vR r9)) (σ, I, J, D, R) 51 [(0, vR (some t)), (1, vR x1)] [] := by
  unfold fX7_newTop_b51 at h
  refine r_aload_n (pc := 51) dX7_newTop_51 rfl 0 rfl ?_
  refine r_dup (pc := 52) dX7_newTop_52 rfl ?_
  obtain ⟨g18, h⟩ := gd h
  refine r_getI (pc := 53) dX7_newTop_53 fgX7_70 rfl g18 ?_
  refine r_iconst (pc := 56) dX7_newTop_56 kc_iconst_1 ?_
  refine r_iadd (pc := 57) dX7_newTop_57 ?_
  refine r_putI (pc := 58) dX7_newTop_58 fwX7_70 rfl g18 ?_
  refine r_aload_n (pc := 61) dX7_newTop_61 rfl 1 rfl ?_
  refine r_iconst (pc := 62) dX7_newTop_62 kc_iconst_0 ?_
  obtain ⟨a20, ha20, h⟩ := ob h
  refine r_ref1 ha20 ?_
  obtain ⟨g21, h⟩ := gd h
  refine r_putI (pc := 63) dX7_newTop_63 fwX7_114 rfl g21 ?_
  refine r_aload_n (pc := 66) dX7_newTop_66 rfl 1 rfl ?_
  refine r_ref0 ha20 ?_
  refine r_iconst (pc := 67) dX7_newTop_67 kc_iconst_1 ?_
  refine r_putI (pc := 68) dX7_newTop_68 fwX7_117 rfl g21 ?_
  refine r_aload_n (pc := 71) dX7_newTop_71 rfl 1 rfl ?_
  refine r_ref0 ha20 ?_
  refine r_iconst (pc := 72) dX7_newTop_72 kc_iconst_0 ?_
  refine r_putI (pc := 73) dX7_newTop_73 fwX7_120 rfl g21 ?_
  refine r_aload_n (pc := 76) dX7_newTop_76 rfl 1 rfl ?_
  refine r_ref0 ha20 ?_
  refine r_aload_n (pc := 77) dX7_newTop_77 rfl 0 rfl ?_
  obtain ⟨a25, ha25, h⟩ := ob h
  refine r_getS (pc := 78) dX7_newTop_78 fgX7_34 rfl g18 ha25 ?_
  obtain ⟨g26, h⟩ := gd h
  obtain ⟨r27, hc28, h⟩ := ob h
  refine r_callV1 (pc := 81) (av := []) (S := [vR (some a20)]) dX7_newTop_81 (kX8_changesSoFar hc28) g26 rfl mkX7_123 mwX8_changesSoFar rfl ⟨Nat.le_of_ble_eq_true rfl, Nat.le_of_ble_eq_true rfl⟩ (Nat.le_of_ble_eq_true rfl) ⟨Nat.le_refl _, Nat.le_refl _⟩ (fun b => b) ?_
  refine r_putI (pc := 84) dX7_newTop_84 fwX7_127 rfl g21 ?_
  refine r_aload_n (pc := 87) dX7_newTop_87 rfl 1 rfl ?_
  refine r_ref0 ha20 ?_
  cases h
  exact r_aret (Or.inl ⟨_, rfl⟩) dX7_newTop_88
def fX7_newTop_b40  (t : Nat) (σ : Shp) (I : Nat → Nat → Int32) (R : Nat → Nat → Option Nat) (s0 : Nat) : Option ((Shp) × (Nat → Nat → Int32) × (Nat → Nat → Option Nat) × (Option Nat)) :=
  if kdx σ t = 8 then
  ((R t 4) : Option Nat).bind fun a13 =>
  if kdx σ a13 = 27 then
  if ¬ ((I t 6) < 0 ∨ lnx σ a13 ≤ Int32.toNatClampNeg (I t 6)) then
  if okR σ 4 (some s0) = true then
  let R17 := u2 R a13 (Int32.toNatClampNeg (I t 6)) (some s0)
  fX7_newTop_b51 t σ I R17 (some s0)
  else none
  else none
  else none
  else none
theorem mX7_newTop_b40 {σ : Shp} {I : Nat → Nat → Int32} {R : Nat → Nat → Option Nat} {t : Nat} {σ9 : Shp} {I9 : Nat → Nat → Int32} {R9 : Nat → Nat → Option Nat} {r9 : Option Nat} {s0 : Nat} (h : fX7_newTop_b40 t σ I R s0 = some (σ9, I9, R9, r9)) : Lex σ σ9 := by
  unfold fX7_newTop_b40 at h
  replace h := (gd h).2
  obtain ⟨a13, ha13, h⟩ := ob h
  replace h := (gd h).2
  replace h := (gd h).2
  replace h := (gd h).2
  exact mX7_newTop_b51 h
theorem wX7_newTop_b40 {G : Gx} {l : Launch} {σ0 : Shp} {σ : Shp} {I : Nat → Nat → Int32} {J : Nat → Nat → Int64} {D : Nat → Nat → UInt64} {R : Nat → Nat → Option Nat} {t : Nat} {σ9 : Shp} {I9 : Nat → Nat → Int32} {R9 : Nat → Nat → Option Nat} {r9 : Option Nat} {s0 : Nat} (h : fX7_newTop_b40 t σ I R s0 = some (σ9, I9, R9, r9)) : WX7_newTop G l σ0 (σ9, I9, J, D, R9) (some (vR r9)) (σ, I, J, D, R) 40 [(0, vR (some t))] [vR (some s0)] := by
  unfold fX7_newTop_b40 at h
  refine r_astore_n (pc := 40) (L' := [(1, vR (some s0)), (0, vR (some t))]) dX7_newTop_40 rfl (by decide) rfl ?_
  refine r_aload_n (pc := 41) dX7_newTop_41 rfl 1 rfl ?_
  obtain ⟨g12, h⟩ := gd h
  obtain ⟨a13, ha13, h⟩ := ob h
  refine r_getS (pc := 42) dX7_newTop_42 fgX7_40 rfl g12 ha13 ?_
  refine r_aload_n (pc := 45) dX7_newTop_45 rfl 1 rfl ?_
  refine r_getI (pc := 46) dX7_newTop_46 fgX7_70 rfl g12 ?_
  refine r_aload_n (pc := 49) dX7_newTop_49 rfl 0 rfl ?_
  obtain ⟨g14, h⟩ := gd h
  obtain ⟨g15, h⟩ := gd h
  obtain ⟨g16, h⟩ := gd h
  refine r_aastore (c := 3) (pc := 50) dX7_newTop_50 g14 (by decide) g15 g16 ?_
  refine r_sub [1, 0] rfl ?_
  exact wX7_newTop_b51 h
def fX7_newTop_b36  (t : Nat) (σ : Shp) (I : Nat → Nat → Int32) (R : Nat → Nat → Option Nat) (s0 : Nat) : Option ((Shp) × (Nat → Nat → Int32) × (Nat → Nat → Option Nat) × (Option Nat)) :=
  if kdx σ s0 = 4 then
  (fX3_init σ R s0).bind fun (σ9, R10) =>
  fX7_newTop_b40 t σ9 I R10 s0
  else none
theorem mX7_newTop_b36 {σ : Shp} {I : Nat → Nat → Int32} {R : Nat → Nat → Option Nat} {t : Nat} {σ9 : Shp} {I9 : Nat → Nat → Int32} {R9 : Nat → Nat → Option Nat} {r9 : Option Nat} {s0 : Nat} (h : fX7_newTop_b36 t σ I R s0 = some (σ9, I9, R9, r9)) : Lex σ σ9 := by
  unfold fX7_newTop_b36 at h
  replace h := (gd h).2
  obtain ⟨⟨σ9, R10⟩, hc11, h⟩ := ob h
  refine Lex.trans (mX3_init hc11) ?_
  exact mX7_newTop_b40 h
theorem wX7_newTop_b36 {G : Gx} {l : Launch} {σ0 : Shp} {σ : Shp} {I : Nat → Nat → Int32} {J : Nat → Nat → Int64} {D : Nat → Nat → UInt64} {R : Nat → Nat → Option Nat} {t : Nat} {σ9 : Shp} {I9 : Nat → Nat → Int32} {R9 : Nat → Nat → Option Nat} {r9 : Option Nat} {s0 : Nat} (h : fX7_newTop_b36 t σ I R s0 = some (σ9, I9, R9, r9)) : WX7_newTop G l σ0 (σ9, I9, J, D, R9) (some (vR r9)) (σ, I, J, D, R) 36 [(0, vR (some t))] [vR (some s0)] := by
  unfold fX7_newTop_b36 at h
  refine r_dup (pc := 36) dX7_newTop_36 rfl ?_
  obtain ⟨g8, h⟩ := gd h
  obtain ⟨⟨σ9, R10⟩, hc11, h⟩ := ob h
  refine r_callIN0 (pc := 37) (av := []) (S := [vR (some s0)]) dX7_newTop_37 (kX3_init hc11) nkX7_113 rfl mwX3_init rfl ⟨Nat.le_of_ble_eq_true rfl, Nat.le_of_ble_eq_true rfl⟩ (Nat.le_of_ble_eq_true rfl) (mX3_init hc11) (bdx_le (mX3_init hc11) (mX7_newTop_b40 h)) ?_
  refine r_sub [0] rfl ?_
  exact wX7_newTop_b40 h
def fX7_newTop (σ : Shp) (I : Nat → Nat → Int32) (R : Nat → Nat → Option Nat) (t : Nat)  : Option ((Shp) × (Nat → Nat → Int32) × (Nat → Nat → Option Nat) × (Option Nat)) :=
  if kdx σ t = 8 then
  if (I t 6) < 0 then
    some (σ, I, R, none)
  else
    if (I t 6) < (160 : Int32) then
      ((R t 4) : Option Nat).bind fun a2 =>
      if kdx σ a2 = 27 then
      if ¬ ((I t 6) < 0 ∨ lnx σ a2 ≤ Int32.toNatClampNeg (I t 6)) then
      let v5 := (R a2 (Int32.toNatClampNeg (I t 6)))
      onl v5
        (
          let σ7 := mkO σ 4 13
          fX7_newTop_b36 t σ7 I R (nxx σ + 4))
        (fun a6 =>
          fX7_newTop_b51 t σ I R v5)
      else none
      else none
    else
      some (σ, I, R, none)
  else none
theorem mX7_newTop {σ : Shp} {I : Nat → Nat → Int32} {R : Nat → Nat → Option Nat} {t : Nat}  {σ9 : Shp} {I9 : Nat → Nat → Int32} {R9 : Nat → Nat → Option Nat} {r9 : Option Nat} (h : fX7_newTop σ I R t = some (σ9, I9, R9, r9)) : Lex σ σ9 := by
  unfold fX7_newTop at h
  replace h := (gd h).2
  rcases itc h with ⟨c, h⟩ | ⟨c, h⟩
  · cases h
    exact ⟨Nat.le_refl _, Nat.le_refl _⟩
  · rcases itc h with ⟨c, h⟩ | ⟨c, h⟩
    · obtain ⟨a2, ha2, h⟩ := ob h
      replace h := (gd h).2
      replace h := (gd h).2
      rcases onl_c h with ⟨ea6, h⟩ | ⟨a6, ha6, h⟩
      · exact Lex_mkO (mX7_newTop_b36 h)
      · exact mX7_newTop_b51 h
    · cases h
      exact ⟨Nat.le_refl _, Nat.le_refl _⟩
theorem kX7_newTop {G : Gx} {l : Launch} {σ : Shp} {I : Nat → Nat → Int32} {J : Nat → Nat → Int64} {D : Nat → Nat → UInt64} {R : Nat → Nat → Option Nat} {t : Nat}  {σ9 : Shp} {I9 : Nat → Nat → Int32} {R9 : Nat → Nat → Option Nat} {r9 : Option Nat} (h : fX7_newTop σ I R t = some (σ9, I9, R9, r9)) : Con G l yX7_newTop cX7_newTop 2 (some (.object "GlassHouse$Frame")) 2 40 [vR (some t)] (σ, I, J, D, R) (σ9, I9, J, D, R9) (some (vR r9)) := by
  unfold fX7_newTop at h
  refine Con.mk (by decide +kernel) rfl (Nat.le_of_ble_eq_true rfl) ?_
  show WX7_newTop G l σ (σ9, I9, J, D, R9) (some (vR r9)) (σ, I, J, D, R) 0 _ []
  refine r_aload_n (pc := 0) dX7_newTop_0 rfl 0 rfl ?_
  obtain ⟨g1, h⟩ := gd h
  refine r_getI (pc := 1) dX7_newTop_1 fgX7_70 rfl g1 ?_
  refine r_if_lt (pc := 4) (tgt := 17) dX7_newTop_4 rfl (fun c => ?_) (fun c => ?_)
  · have h := it h c
    refine r_null (pc := 17) dX7_newTop_17 ?_
    cases h
    exact r_aret (Or.inl ⟨_, rfl⟩) dX7_newTop_18
  · have h := ie h c
    refine r_aload_n (pc := 7) dX7_newTop_7 rfl 0 rfl ?_
    refine r_getI (pc := 8) dX7_newTop_8 fgX7_70 rfl g1 ?_
    refine r_sipush (pc := 11) dX7_newTop_11 kc_sipush_160 ?_
    refine r_icmp_lt (pc := 14) (tgt := 19) dX7_newTop_14 rfl (fun c => ?_) (fun c => ?_)
    · have h := it h c
      refine r_aload_n (pc := 19) dX7_newTop_19 rfl 0 rfl ?_
      obtain ⟨a2, ha2, h⟩ := ob h
      refine r_getS (pc := 20) dX7_newTop_20 fgX7_40 rfl g1 ha2 ?_
      refine r_aload_n (pc := 23) dX7_newTop_23 rfl 0 rfl ?_
      refine r_getI (pc := 24) dX7_newTop_24 fgX7_70 rfl g1 ?_
      obtain ⟨g3, h⟩ := gd h
      obtain ⟨g4, h⟩ := gd h
      refine r_aaload (pc := 27) dX7_newTop_27 g3 (by decide) g4 ?_
      refine r_astore_n (pc := 28) (L' := [(1, vR (R a2 (Int32.toNatClampNeg (I t 6)))), (0, vR (some t))]) dX7_newTop_28 rfl (by decide) rfl ?_
      refine r_aload_n (pc := 29) dX7_newTop_29 rfl 0 rfl ?_
      rcases onl_c h with ⟨ea6, h⟩ | ⟨a6, ha6, h⟩
      · refine r_ref0n ea6 ?_
        refine r_ifnonnull_n (pc := 30) dX7_newTop_30 ?_
        refine r_new (pc := 33) dX7_newTop_33 cls3 ftk3 cnX7_38 ins3 ini3 (Nat.sub_le_sub_right (mX7_newTop_b36 h).1 _) (Nat.sub_le_sub_right (mX7_newTop_b36 h).2 _) ?_
        refine r_sub [1] rfl ?_
        exact wX7_newTop_b36 h
      · refine r_ref0 ha6 ?_
        refine r_ifnonnull_s (pc := 30) (tgt := 51) dX7_newTop_30 rfl ?_
        refine r_sub [1, 0] rfl ?_
        exact wX7_newTop_b51 h
    · have h := ie h c
      refine r_null (pc := 17) dX7_newTop_17 ?_
      cases h
      exact r_aret (Or.inl ⟨_, rfl⟩) dX7_newTop_18
abbrev WX7_enterPlan (G : Gx) (l : Launch) (σ0 : Shp) (X1 : Stt) (rv : Option SV) : Stt → Nat → List (Nat × SV) → List SV → Prop := Wm G l yX7_enterPlan cX7_enterPlan 4 none (fun _ => True) (rmx 3 61 σ0 X1.1) σ0 (Qmx G σ0 X1 rv)
def fX7_enterPlan_b4  (t : Nat) (σ : Shp) (I : Nat → Nat → Int32) (R : Nat → Nat → Option Nat) (x1 : Int32) (x2 : Int32) (s0 : Option Nat) : Option ((Shp) × (Nat → Nat → Int32) × (Nat → Nat → Option Nat)) :=
  onl s0
    (
      some (σ, I, R))
    (fun a7 =>
      if kdx σ a7 = 4 then
      let I9 := u2 I a7 0 x1
      let I10 := u2 I9 a7 1 x2
      let I11 := u2 I10 a7 2 (0 : Int32)
      let I12 := u2 I11 a7 3 (0 : Int32)
      if kdx σ t = 8 then
      ((R t 2) : Option Nat).bind fun a14 =>
      if kdx σ a14 = 7 then
      (fX6_lengthOf σ I12 R a14 x2).bind fun r16 =>
      let I18 := u2 I12 a7 4 r16
      some (σ, I18, R)
      else none
      else none
      else none)
theorem mX7_enterPlan_b4 {σ : Shp} {I : Nat → Nat → Int32} {R : Nat → Nat → Option Nat} {t : Nat} {σ9 : Shp} {I9 : Nat → Nat → Int32} {R9 : Nat → Nat → Option Nat} {x1 : Int32} {x2 : Int32} {s0 : Option Nat} (h : fX7_enterPlan_b4 t σ I R x1 x2 s0 = some (σ9, I9, R9)) : Lex σ σ9 := by
  unfold fX7_enterPlan_b4 at h
  rcases onl_c h with ⟨ea7, h⟩ | ⟨a7, ha7, h⟩
  · cases h
    exact ⟨Nat.le_refl _, Nat.le_refl _⟩
  · replace h := (gd h).2
    replace h := (gd h).2
    obtain ⟨a14, ha14, h⟩ := ob h
    replace h := (gd h).2
    obtain ⟨r16, hc17, h⟩ := ob h
    cases h
    exact ⟨Nat.le_refl _, Nat.le_refl _⟩
theorem wX7_enterPlan_b4 {G : Gx} {l : Launch} {σ0 : Shp} {σ : Shp} {I : Nat → Nat → Int32} {J : Nat → Nat → Int64} {D : Nat → Nat → UInt64} {R : Nat → Nat → Option Nat} {t : Nat} {σ9 : Shp} {I9 : Nat → Nat → Int32} {R9 : Nat → Nat → Option Nat} {x1 : Int32} {x2 : Int32} {s0 : Option Nat} (h : fX7_enterPlan_b4 t σ I R x1 x2 s0 = some (σ9, I9, R9)) : WX7_enterPlan G l σ0 (σ9, I9, J, D, R9) none (σ, I, J, D, R) 4 [(0, vR (some t)), (1, vI x1), (2, vI x2)] [vR s0] := by
  unfold fX7_enterPlan_b4 at h
  refine r_astore_n (pc := 4) (L' := [(3, vR s0), (0, vR (some t)), (1, vI x1), (2, vI x2)]) dX7_enterPlan_4 rfl (by decide) rfl ?_
  refine r_aload_n (pc := 5) dX7_enterPlan_5 rfl 0 rfl ?_
  rcases onl_c h with ⟨ea7, h⟩ | ⟨a7, ha7, h⟩
  · refine r_ref0n ea7 ?_
    refine r_ifnonnull_n (pc := 6) dX7_enterPlan_6 ?_
    cases h
    exact r_vret dX7_enterPlan_9
  · refine r_ref0 ha7 ?_
    refine r_ifnonnull_s (pc := 6) (tgt := 10) dX7_enterPlan_6 rfl ?_
    refine r_aload_n (pc := 10) dX7_enterPlan_10 rfl 0 rfl ?_
    refine r_ref0 ha7 ?_
    refine r_iload_n (pc := 11) dX7_enterPlan_11 rfl 2 rfl ?_
    obtain ⟨g8, h⟩ := gd h
    refine r_putI (pc := 12) dX7_enterPlan_12 fwX7_133 rfl g8 ?_
    refine r_aload_n (pc := 15) dX7_enterPlan_15 rfl 0 rfl ?_
    refine r_ref0 ha7 ?_
    refine r_iload_n (pc := 16) dX7_enterPlan_16 rfl 3 rfl ?_
    refine r_putI (pc := 17) dX7_enterPlan_17 fwX7_96 rfl g8 ?_
    refine r_aload_n (pc := 20) dX7_enterPlan_20 rfl 0 rfl ?_
    refine r_ref0 ha7 ?_
    refine r_iconst (pc := 21) dX7_enterPlan_21 kc_iconst_0 ?_
    refine r_putI (pc := 22) dX7_enterPlan_22 fwX7_136 rfl g8 ?_
    refine r_aload_n (pc := 25) dX7_enterPlan_25 rfl 0 rfl ?_
    refine r_ref0 ha7 ?_
    refine r_iconst (pc := 26) dX7_enterPlan_26 kc_iconst_0 ?_
    refine r_putI (pc := 27) dX7_enterPlan_27 fwX7_82 rfl g8 ?_
    refine r_aload_n (pc := 30) dX7_enterPlan_30 rfl 0 rfl ?_
    refine r_ref0 ha7 ?_
    refine r_aload_n (pc := 31) dX7_enterPlan_31 rfl 1 rfl ?_
    obtain ⟨g13, h⟩ := gd h
    obtain ⟨a14, ha14, h⟩ := ob h
    refine r_getS (pc := 32) dX7_enterPlan_32 fgX7_27 rfl g13 ha14 ?_
    refine r_iload_n (pc := 35) dX7_enterPlan_35 rfl 3 rfl ?_
    obtain ⟨g15, h⟩ := gd h
    obtain ⟨r16, hc17, h⟩ := ob h
    refine r_callV1 (pc := 36) (av := [vI x2]) (S := [vR (some a7)]) dX7_enterPlan_36 (kX6_lengthOf hc17) g15 rfl mkX7_139 mwX6_lengthOf rfl ⟨Nat.le_of_ble_eq_true rfl, Nat.le_of_ble_eq_true rfl⟩ (Nat.le_of_ble_eq_true rfl) ⟨Nat.le_refl _, Nat.le_refl _⟩ (fun b => b) ?_
    refine r_putI (pc := 39) dX7_enterPlan_39 fwX7_85 rfl g8 ?_
    cases h
    exact r_vret dX7_enterPlan_42
def fX7_enterPlan (σ : Shp) (I : Nat → Nat → Int32) (R : Nat → Nat → Option Nat) (t : Nat) (x1 : Int32) (x2 : Int32) : Option ((Shp) × (Nat → Nat → Int32) × (Nat → Nat → Option Nat)) :=
  if kdx σ t = 8 then
  (fX7_newTop σ I R t).bind fun (σ2, I3, R4, r5) =>
  fX7_enterPlan_b4 t σ2 I3 R4 x1 x2 r5
  else none
theorem mX7_enterPlan {σ : Shp} {I : Nat → Nat → Int32} {R : Nat → Nat → Option Nat} {t : Nat} {x1 : Int32} {x2 : Int32} {σ9 : Shp} {I9 : Nat → Nat → Int32} {R9 : Nat → Nat → Option Nat} (h : fX7_enterPlan σ I R t x1 x2 = some (σ9, I9, R9)) : Lex σ σ9 := by
  unfold fX7_enterPlan at h
  replace h := (gd h).2
  obtain ⟨⟨σ2, I3, R4, r5⟩, hc6, h⟩ := ob h
  refine Lex.trans (mX7_newTop hc6) ?_
  exact mX7_enterPlan_b4 h
theorem kX7_enterPlan {G : Gx} {l : Launch} {σ : Shp} {I : Nat → Nat → Int32} {J : Nat → Nat → Int64} {D : Nat → Nat → UInt64} {R : Nat → Nat → Option Nat} {t : Nat} {x1 : Int32} {x2 : Int32} {σ9 : Shp} {I9 : Nat → Nat → Int32} {R9 : Nat → Nat → Option Nat} (h : fX7_enterPlan σ I R t x1 x2 = some (σ9, I9, R9)) : Con G l yX7_enterPlan cX7_enterPlan 4 none 3 61 [vR (some t), vI x1, vI x2] (σ, I, J, D, R) (σ9, I9, J, D, R9) none := by
  unfold fX7_enterPlan at h
  refine Con.mk (by decide +kernel) rfl (Nat.le_of_ble_eq_true rfl) ?_
  show WX7_enterPlan G l σ (σ9, I9, J, D, R9) none (σ, I, J, D, R) 0 _ []
  refine r_aload_n (pc := 0) dX7_enterPlan_0 rfl 0 rfl ?_
  obtain ⟨g1, h⟩ := gd h
  obtain ⟨⟨σ2, I3, R4, r5⟩, hc6, h⟩ := ob h
  refine r_callV1 (pc := 1) (av := []) (S := []) dX7_enterPlan_1 (kX7_newTop hc6) g1 rfl mkX7_130 mwX7_newTop rfl ⟨Nat.le_of_ble_eq_true rfl, Nat.le_of_ble_eq_true rfl⟩ (Nat.le_of_ble_eq_true rfl) (mX7_newTop hc6) (bdx_le (mX7_newTop hc6) (mX7_enterPlan_b4 h)) ?_
  refine r_sub [0, 1, 2] rfl ?_
  exact wX7_enterPlan_b4 h
abbrev WX7_counted (G : Gx) (l : Launch) (σ0 : Shp) (X1 : Stt) (rv : Option SV) : Stt → Nat → List (Nat × SV) → List SV → Prop := Wm G l yX7_counted cX7_counted 1 (some .boolean) (fun _ => True) (rmx 0 0 σ0 X1.1) σ0 (Qmx G σ0 X1 rv)
def fX7_counted (σ : Shp) (I : Nat → Nat → Int32) (R : Nat → Nat → Option Nat) (t : Nat)  : Option ((Nat → Nat → Int32) × (Int32)) :=
  if kdx σ t = 8 then
  if (I t 9) < (300 : Int32) then
    let I2 := u2 I t 9 ((I t 9) + (1 : Int32))
    some (I2, (1 : Int32))
  else
    ((R t 5) : Option Nat).bind fun a3 =>
    if kdx σ a3 = 20 then
    if ¬ ((0 : Int32) < 0 ∨ lnx σ a3 ≤ Int32.toNatClampNeg (0 : Int32)) then
    let I6 := u2 I a3 (Int32.toNatClampNeg (0 : Int32)) (3 : Int32)
    some (I6, (0 : Int32))
    else none
    else none
  else none
theorem kX7_counted {G : Gx} {l : Launch} {σ : Shp} {I : Nat → Nat → Int32} {J : Nat → Nat → Int64} {D : Nat → Nat → UInt64} {R : Nat → Nat → Option Nat} {t : Nat}  {I9 : Nat → Nat → Int32} {r9 : Int32} (h : fX7_counted σ I R t = some (I9, r9)) : Con G l yX7_counted cX7_counted 1 (some .boolean) 0 0 [vR (some t)] (σ, I, J, D, R) (σ, I9, J, D, R) (some (vI r9)) := by
  unfold fX7_counted at h
  refine Con.mk (by decide +kernel) rfl (Nat.le_of_ble_eq_true rfl) ?_
  show WX7_counted G l σ (σ, I9, J, D, R) (some (vI r9)) (σ, I, J, D, R) 0 _ []
  refine r_aload_n (pc := 0) dX7_counted_0 rfl 0 rfl ?_
  obtain ⟨g1, h⟩ := gd h
  refine r_getI (pc := 1) dX7_counted_1 fgX7_55 rfl g1 ?_
  refine r_sipush (pc := 4) dX7_counted_4 kc_sipush_300 ?_
  refine r_icmp_lt (pc := 7) (tgt := 19) dX7_counted_7 rfl (fun c => ?_) (fun c => ?_)
  · have h := it h c
    refine r_aload_n (pc := 19) dX7_counted_19 rfl 0 rfl ?_
    refine r_dup (pc := 20) dX7_counted_20 rfl ?_
    refine r_getI (pc := 21) dX7_counted_21 fgX7_55 rfl g1 ?_
    refine r_iconst (pc := 24) dX7_counted_24 kc_iconst_1 ?_
    refine r_iadd (pc := 25) dX7_counted_25 ?_
    refine r_putI (pc := 26) dX7_counted_26 fwX7_55 rfl g1 ?_
    refine r_iconst (pc := 29) dX7_counted_29 kc_iconst_1 ?_
    cases h
    exact r_zret dX7_counted_30 (Or.inr rfl)
  · have h := ie h c
    refine r_aload_n (pc := 10) dX7_counted_10 rfl 0 rfl ?_
    obtain ⟨a3, ha3, h⟩ := ob h
    refine r_getS (pc := 11) dX7_counted_11 fgX7_44 rfl g1 ha3 ?_
    refine r_iconst (pc := 14) dX7_counted_14 kc_iconst_0 ?_
    refine r_iconst (pc := 15) dX7_counted_15 kc_iconst_3 ?_
    obtain ⟨g4, h⟩ := gd h
    obtain ⟨g5, h⟩ := gd h
    refine r_iastore (pc := 16) dX7_counted_16 g4 g5 ?_
    refine r_iconst (pc := 17) dX7_counted_17 kc_iconst_0 ?_
    cases h
    exact r_zret dX7_counted_18 (Or.inl rfl)
abbrev WX8_undoTo (G : Gx) (l : Launch) (σ0 : Shp) (X1 : Stt) (rv : Option SV) : Stt → Nat → List (Nat × SV) → List SV → Prop := Wm G l yX8_undoTo cX8_undoTo 5 none (fun _ => True) (rmx 1 21 σ0 X1.1) σ0 (Qmx G σ0 X1 rv)
def fX8_undoTo_l7  (σ : Shp) (R : Nat → Nat → Option Nat) (t : Nat) : Nat → (Nat → Nat → Int32) → (Nat → Nat → Int64) → (Int32) → (Int32) → Option ((Nat → Nat → Int32) × (Nat → Nat → Int64))
  | 0, _, _, _, _ => none
  | n + 1, I, J, x1, x2 =>
    if x2 < x1 then
      if kdx σ t = 9 then
      let I4 := u2 I t 6 (fXM_maxI (0 : Int32) (fXM_minI (I t 6) x1))
      some (I4, J)
      else none
    else
      if x2 < 0 then
        if kdx σ t = 9 then
        let I6 := u2 I t 6 (fXM_maxI (0 : Int32) (fXM_minI (I t 6) x1))
        some (I6, J)
        else none
      else
        if kdx σ t = 9 then
        ((R t 3) : Option Nat).bind fun a8 =>
        if kdx σ a8 = 26 then
        if ¬ (x2 < 0 ∨ lnx σ a8 ≤ Int32.toNatClampNeg x2) then
        let v11 := (R a8 (Int32.toNatClampNeg x2))
        ((R t 4) : Option Nat).bind fun a12 =>
        if kdx σ a12 = 20 then
        if ¬ (x2 < 0 ∨ lnx σ a12 ≤ Int32.toNatClampNeg x2) then
        let v15 := (I a12 (Int32.toNatClampNeg x2))
        onl v11
          (
            if (6 : Int32) ≤ v15 then
              let v17 := x2 + (-1 : Int32)
              fX8_undoTo_l7 σ R t n I J x1 v17
            else
              ((R t 0) : Option Nat).bind fun a18 =>
              ((R t 5) : Option Nat).bind fun a19 =>
              if kdx σ a19 = 21 then
              if ¬ (x2 < 0 ∨ lnx σ a19 ≤ Int32.toNatClampNeg x2) then
              if kdx σ a18 = 21 then
              if ¬ (v15 < 0 ∨ lnx σ a18 ≤ Int32.toNatClampNeg v15) then
              let J24 := u2 J a18 (Int32.toNatClampNeg v15) (J a19 (Int32.toNatClampNeg x2))
              let v25 := x2 + (-1 : Int32)
              fX8_undoTo_l7 σ R t n I J24 x1 v25
              else none
              else none
              else none
              else none)
          (fun a16 =>
            if kdx σ a16 = 11 then
            ((R a16 1) : Option Nat).bind fun a27 =>
            if kdx σ a27 = 21 then
            if (Int32.ofNat (lnx σ a27)) ≤ v15 then
              let v29 := x2 + (-1 : Int32)
              fX8_undoTo_l7 σ R t n I J x1 v29
            else
              ((R t 5) : Option Nat).bind fun a30 =>
              if kdx σ a30 = 21 then
              if ¬ (x2 < 0 ∨ lnx σ a30 ≤ Int32.toNatClampNeg x2) then
              if ¬ (v15 < 0 ∨ lnx σ a27 ≤ Int32.toNatClampNeg v15) then
              let J34 := u2 J a27 (Int32.toNatClampNeg v15) (J a30 (Int32.toNatClampNeg x2))
              let v35 := x2 + (-1 : Int32)
              fX8_undoTo_l7 σ R t n I J34 x1 v35
              else none
              else none
              else none
            else none
            else none)
        else none
        else none
        else none
        else none
        else none
theorem wX8_undoTo_l7 {G : Gx} {l : Launch} {σ : Shp} {D : Nat → Nat → UInt64} {R : Nat → Nat → Option Nat} {t : Nat} {I9 : Nat → Nat → Int32} {J9 : Nat → Nat → Int64} : ∀ (n : Nat) (I : Nat → Nat → Int32) (J : Nat → Nat → Int64) (x1 : Int32) (x2 : Int32), fX8_undoTo_l7 σ R t n I J x1 x2 = some (I9, J9) → WX8_undoTo G l σ (σ, I9, J9, D, R) none (σ, I, J, D, R) 7 [(0, vR (some t)), (1, vI x1), (2, vI x2)] [] := by
  intro n
  induction n with
  | zero =>
    intro I J x1 x2 h
    have h : none = some _ := h
    cases h
  | succ n ih =>
    intro I J x1 x2 h
    rw [fX8_undoTo_l7] at h
    refine r_iload_n (pc := 7) dX8_undoTo_7 rfl 2 rfl ?_
    refine r_iload_n (pc := 8) dX8_undoTo_8 rfl 1 rfl ?_
    refine r_icmp_lt (pc := 9) (tgt := 87) dX8_undoTo_9 rfl (fun c => ?_) (fun c => ?_)
    · have h := it h c
      refine r_aload_n (pc := 87) dX8_undoTo_87 rfl 0 rfl ?_
      refine r_iconst (pc := 88) dX8_undoTo_88 kc_iconst_0 ?_
      refine r_aload_n (pc := 89) dX8_undoTo_89 rfl 0 rfl ?_
      obtain ⟨g3, h⟩ := gd h
      refine r_getI (pc := 90) dX8_undoTo_90 fgX8_32 rfl g3 ?_
      refine r_iload_n (pc := 93) dX8_undoTo_93 rfl 1 rfl ?_
      refine r_callS1 (pc := 94) (av := [vI (I t 6), vI x1]) (S := [vI (0 : Int32), vR (some t)]) dX8_undoTo_94 (kXM_minI rfl) mkX8_43 mwXM_minI rfl ⟨Nat.le_of_ble_eq_true rfl, Nat.le_of_ble_eq_true rfl⟩ (Nat.le_of_ble_eq_true rfl) ⟨Nat.le_refl _, Nat.le_refl _⟩ (fun b => b) ?_
      refine r_callS1 (pc := 97) (av := [vI (0 : Int32), vI (fXM_minI (I t 6) x1)]) (S := [vR (some t)]) dX8_undoTo_97 (kXM_maxI rfl) mkX8_49 mwXM_maxI rfl ⟨Nat.le_of_ble_eq_true rfl, Nat.le_of_ble_eq_true rfl⟩ (Nat.le_of_ble_eq_true rfl) ⟨Nat.le_refl _, Nat.le_refl _⟩ (fun b => b) ?_
      refine r_putI (pc := 100) dX8_undoTo_100 fwX8_32 rfl g3 ?_
      cases h
      exact r_vret dX8_undoTo_103
    · have h := ie h c
      refine r_iload_n (pc := 12) dX8_undoTo_12 rfl 2 rfl ?_
      refine r_if_lt (pc := 13) (tgt := 87) dX8_undoTo_13 rfl (fun c => ?_) (fun c => ?_)
      · have h := it h c
        refine r_aload_n (pc := 87) dX8_undoTo_87 rfl 0 rfl ?_
        refine r_iconst (pc := 88) dX8_undoTo_88 kc_iconst_0 ?_
        refine r_aload_n (pc := 89) dX8_undoTo_89 rfl 0 rfl ?_
        obtain ⟨g5, h⟩ := gd h
        refine r_getI (pc := 90) dX8_undoTo_90 fgX8_32 rfl g5 ?_
        refine r_iload_n (pc := 93) dX8_undoTo_93 rfl 1 rfl ?_
        refine r_callS1 (pc := 94) (av := [vI (I t 6), vI x1]) (S := [vI (0 : Int32), vR (some t)]) dX8_undoTo_94 (kXM_minI rfl) mkX8_43 mwXM_minI rfl ⟨Nat.le_of_ble_eq_true rfl, Nat.le_of_ble_eq_true rfl⟩ (Nat.le_of_ble_eq_true rfl) ⟨Nat.le_refl _, Nat.le_refl _⟩ (fun b => b) ?_
        refine r_callS1 (pc := 97) (av := [vI (0 : Int32), vI (fXM_minI (I t 6) x1)]) (S := [vR (some t)]) dX8_undoTo_97 (kXM_maxI rfl) mkX8_49 mwXM_maxI rfl ⟨Nat.le_of_ble_eq_true rfl, Nat.le_of_ble_eq_true rfl⟩ (Nat.le_of_ble_eq_true rfl) ⟨Nat.le_refl _, Nat.le_refl _⟩ (fun b => b) ?_
        refine r_putI (pc := 100) dX8_undoTo_100 fwX8_32 rfl g5 ?_
        cases h
        exact r_vret dX8_undoTo_103
      · have h := ie h c
        refine r_aload_n (pc := 16) dX8_undoTo_16 rfl 0 rfl ?_
        obtain ⟨g7, h⟩ := gd h
        obtain ⟨a8, ha8, h⟩ := ob h
        refine r_getS (pc := 17) dX8_undoTo_17 fgX8_22 rfl g7 ha8 ?_
        refine r_iload_n (pc := 20) dX8_undoTo_20 rfl 2 rfl ?_
        obtain ⟨g9, h⟩ := gd h
        obtain ⟨g10, h⟩ := gd h
        refine r_aaload (pc := 21) dX8_undoTo_21 g9 (by decide) g10 ?_
        refine r_astore_n (pc := 22) (L' := [(3, vR (R a8 (Int32.toNatClampNeg x2))), (0, vR (some t)), (1, vI x1), (2, vI x2)]) dX8_undoTo_22 rfl (by decide) rfl ?_
        refine r_aload_n (pc := 23) dX8_undoTo_23 rfl 1 rfl ?_
        obtain ⟨a12, ha12, h⟩ := ob h
        refine r_getS (pc := 24) dX8_undoTo_24 fgX8_26 rfl g7 ha12 ?_
        refine r_iload_n (pc := 27) dX8_undoTo_27 rfl 3 rfl ?_
        obtain ⟨g13, h⟩ := gd h
        obtain ⟨g14, h⟩ := gd h
        refine r_iaload (pc := 28) dX8_undoTo_28 g13 g14 ?_
        refine r_istore (pc := 29) (L' := [(4, vI (I a12 (Int32.toNatClampNeg x2))), (3, vR (R a8 (Int32.toNatClampNeg x2))), (0, vR (some t)), (1, vI x1), (2, vI x2)]) dX8_undoTo_29 (by decide) rfl ?_
        refine r_aload_n (pc := 31) dX8_undoTo_31 rfl 1 rfl ?_
        rcases onl_c h with ⟨ea16, h⟩ | ⟨a16, ha16, h⟩
        · refine r_ref0n ea16 ?_
          refine r_ifnonnull_n (pc := 32) dX8_undoTo_32 ?_
          refine r_iload (pc := 35) dX8_undoTo_35 0 rfl ?_
          refine r_bipush (pc := 37) dX8_undoTo_37 kc_bipush_6 ?_
          refine r_icmp_ge (pc := 39) (tgt := 81) dX8_undoTo_39 rfl (fun c => ?_) (fun c => ?_)
          · have h := it h c
            refine r_iinc (pc := 81) (v := (x2 + (-1 : Int32))) (L' := [(2, vI (x2 + (-1 : Int32))), (4, vI (I a12 (Int32.toNatClampNeg x2))), (3, vR (R a8 (Int32.toNatClampNeg x2))), (0, vR (some t)), (1, vI x1)]) dX8_undoTo_81 4 rfl (kc_inc_m1 _) (by decide) rfl ?_
            refine r_goto (pc := 84) (tgt := 7) dX8_undoTo_84 rfl ?_
            refine r_sub [3, 4, 0] rfl ?_
            exact ih _ _ _ _ h
          · have h := ie h c
            refine r_aload_n (pc := 42) dX8_undoTo_42 rfl 2 rfl ?_
            obtain ⟨a18, ha18, h⟩ := ob h
            refine r_getS (pc := 43) dX8_undoTo_43 fgX8_9 rfl g7 ha18 ?_
            refine r_iload (pc := 46) dX8_undoTo_46 0 rfl ?_
            refine r_aload_n (pc := 48) dX8_undoTo_48 rfl 2 rfl ?_
            obtain ⟨a19, ha19, h⟩ := ob h
            refine r_getS (pc := 49) dX8_undoTo_49 fgX8_29 rfl g7 ha19 ?_
            refine r_iload_n (pc := 52) dX8_undoTo_52 rfl 4 rfl ?_
            obtain ⟨g20, h⟩ := gd h
            obtain ⟨g21, h⟩ := gd h
            refine r_laload (pc := 53) dX8_undoTo_53 g20 g21 ?_
            obtain ⟨g22, h⟩ := gd h
            obtain ⟨g23, h⟩ := gd h
            refine r_lastore (pc := 54) dX8_undoTo_54 g22 g23 ?_
            refine r_goto (pc := 55) (tgt := 81) dX8_undoTo_55 rfl ?_
            refine r_iinc (pc := 81) (v := (x2 + (-1 : Int32))) (L' := [(2, vI (x2 + (-1 : Int32))), (4, vI (I a12 (Int32.toNatClampNeg x2))), (3, vR (R a8 (Int32.toNatClampNeg x2))), (0, vR (some t)), (1, vI x1)]) dX8_undoTo_81 4 rfl (kc_inc_m1 _) (by decide) rfl ?_
            refine r_goto (pc := 84) (tgt := 7) dX8_undoTo_84 rfl ?_
            refine r_sub [3, 4, 0] rfl ?_
            exact ih _ _ _ _ h
        · refine r_ref0 ha16 ?_
          refine r_ifnonnull_s (pc := 32) (tgt := 58) dX8_undoTo_32 rfl ?_
          refine r_iload (pc := 58) dX8_undoTo_58 0 rfl ?_
          refine r_aload_n (pc := 60) dX8_undoTo_60 rfl 1 rfl ?_
          refine r_ref0 ha16 ?_
          obtain ⟨g26, h⟩ := gd h
          obtain ⟨a27, ha27, h⟩ := ob h
          refine r_getS (pc := 61) dX8_undoTo_61 fgX8_40 rfl g26 ha27 ?_
          obtain ⟨g28, h⟩ := gd h
          refine r_alen (pc := 64) dX8_undoTo_64 g28 (by decide) ?_
          refine r_icmp_ge (pc := 65) (tgt := 81) dX8_undoTo_65 rfl (fun c => ?_) (fun c => ?_)
          · have h := it h c
            refine r_iinc (pc := 81) (v := (x2 + (-1 : Int32))) (L' := [(2, vI (x2 + (-1 : Int32))), (4, vI (I a12 (Int32.toNatClampNeg x2))), (3, vR (R a8 (Int32.toNatClampNeg x2))), (0, vR (some t)), (1, vI x1)]) dX8_undoTo_81 4 rfl (kc_inc_m1 _) (by decide) rfl ?_
            refine r_goto (pc := 84) (tgt := 7) dX8_undoTo_84 rfl ?_
            refine r_sub [3, 4, 0] rfl ?_
            exact ih _ _ _ _ h
          · have h := ie h c
            refine r_aload_n (pc := 68) dX8_undoTo_68 rfl 1 rfl ?_
            refine r_ref0 ha16 ?_
            refine r_getS (pc := 69) dX8_undoTo_69 fgX8_40 rfl g26 ha27 ?_
            refine r_iload (pc := 72) dX8_undoTo_72 0 rfl ?_
            refine r_aload_n (pc := 74) dX8_undoTo_74 rfl 2 rfl ?_
            obtain ⟨a30, ha30, h⟩ := ob h
            refine r_getS (pc := 75) dX8_undoTo_75 fgX8_29 rfl g7 ha30 ?_
            refine r_iload_n (pc := 78) dX8_undoTo_78 rfl 4 rfl ?_
            obtain ⟨g31, h⟩ := gd h
            obtain ⟨g32, h⟩ := gd h
            refine r_laload (pc := 79) dX8_undoTo_79 g31 g32 ?_
            obtain ⟨g33, h⟩ := gd h
            refine r_lastore (pc := 80) dX8_undoTo_80 g28 g33 ?_
            refine r_iinc (pc := 81) (v := (x2 + (-1 : Int32))) (L' := [(2, vI (x2 + (-1 : Int32))), (4, vI (I a12 (Int32.toNatClampNeg x2))), (3, vR (R a8 (Int32.toNatClampNeg x2))), (0, vR (some t)), (1, vI x1)]) dX8_undoTo_81 4 rfl (kc_inc_m1 _) (by decide) rfl ?_
            refine r_goto (pc := 84) (tgt := 7) dX8_undoTo_84 rfl ?_
            refine r_sub [3, 4, 0] rfl ?_
            exact ih _ _ _ _ h
def fX8_undoTo (σ : Shp) (I : Nat → Nat → Int32) (J : Nat → Nat → Int64) (R : Nat → Nat → Option Nat) (t : Nat) (x1 : Int32) : Option ((Nat → Nat → Int32) × (Nat → Nat → Int64)) :=
  if kdx σ t = 9 then
  let v2 := ((I t 6) - (1 : Int32))
  fX8_undoTo_l7 σ R t FUx I J x1 v2
  else none
theorem kX8_undoTo {G : Gx} {l : Launch} {σ : Shp} {I : Nat → Nat → Int32} {J : Nat → Nat → Int64} {D : Nat → Nat → UInt64} {R : Nat → Nat → Option Nat} {t : Nat} {x1 : Int32} {I9 : Nat → Nat → Int32} {J9 : Nat → Nat → Int64} (h : fX8_undoTo σ I J R t x1 = some (I9, J9)) : Con G l yX8_undoTo cX8_undoTo 5 none 1 21 [vR (some t), vI x1] (σ, I, J, D, R) (σ, I9, J9, D, R) none := by
  unfold fX8_undoTo at h
  refine Con.mk (by decide +kernel) rfl (Nat.le_of_ble_eq_true rfl) ?_
  show WX8_undoTo G l σ (σ, I9, J9, D, R) none (σ, I, J, D, R) 0 _ []
  refine r_aload_n (pc := 0) dX8_undoTo_0 rfl 0 rfl ?_
  obtain ⟨g1, h⟩ := gd h
  refine r_getI (pc := 1) dX8_undoTo_1 fgX8_32 rfl g1 ?_
  refine r_iconst (pc := 4) dX8_undoTo_4 kc_iconst_1 ?_
  refine r_isub (pc := 5) dX8_undoTo_5 ?_
  refine r_istore_n (pc := 6) (L' := [(2, vI ((I t 6) - (1 : Int32))), (0, vR (some t)), (1, vI x1)]) dX8_undoTo_6 rfl (by decide) rfl ?_
  refine r_sub [1, 2, 0] rfl ?_
  exact wX8_undoTo_l7 _ _ _ _ _ h
abbrev WX7_undoFaulted (G : Gx) (l : Launch) (σ0 : Shp) (X1 : Stt) (rv : Option SV) : Stt → Nat → List (Nat × SV) → List SV → Prop := Wm G l yX7_undoFaulted cX7_undoFaulted 2 none (fun _ => True) (rmx 2 45 σ0 X1.1) σ0 (Qmx G σ0 X1 rv)
def fX7_undoFaulted (σ : Shp) (I : Nat → Nat → Int32) (J : Nat → Nat → Int64) (R : Nat → Nat → Option Nat) (t : Nat) (x1 : Option Nat) : Option ((Nat → Nat → Int32) × (Nat → Nat → Int64)) :=
  if kdx σ t = 8 then
  ((R t 5) : Option Nat).bind fun a2 =>
  if kdx σ a2 = 20 then
  if ¬ ((0 : Int32) < 0 ∨ lnx σ a2 ≤ Int32.toNatClampNeg (0 : Int32)) then
  if (I a2 (Int32.toNatClampNeg (0 : Int32))) = (1 : Int32) then
    ((R t 3) : Option Nat).bind fun a5 =>
    (x1 : Option Nat).bind fun a6 =>
    if kdx σ a6 = 4 then
    if kdx σ a5 = 9 then
    (fX8_undoTo σ I J R a5 (I a6 10)).bind fun (I9, J10) =>
    some (I9, J10)
    else none
    else none
  else
    some (I, J)
  else none
  else none
  else none
theorem kX7_undoFaulted {G : Gx} {l : Launch} {σ : Shp} {I : Nat → Nat → Int32} {J : Nat → Nat → Int64} {D : Nat → Nat → UInt64} {R : Nat → Nat → Option Nat} {t : Nat} {x1 : Option Nat} {I9 : Nat → Nat → Int32} {J9 : Nat → Nat → Int64} (h : fX7_undoFaulted σ I J R t x1 = some (I9, J9)) : Con G l yX7_undoFaulted cX7_undoFaulted 2 none 2 45 [vR (some t), vR x1] (σ, I, J, D, R) (σ, I9, J9, D, R) none := by
  unfold fX7_undoFaulted at h
  refine Con.mk (by decide +kernel) rfl (Nat.le_of_ble_eq_true rfl) ?_
  show WX7_undoFaulted G l σ (σ, I9, J9, D, R) none (σ, I, J, D, R) 0 _ []
  refine r_aload_n (pc := 0) dX7_undoFaulted_0 rfl 0 rfl ?_
  obtain ⟨g1, h⟩ := gd h
  obtain ⟨a2, ha2, h⟩ := ob h
  refine r_getS (pc := 1) dX7_undoFaulted_1 fgX7_44 rfl g1 ha2 ?_
  refine r_iconst (pc := 4) dX7_undoFaulted_4 kc_iconst_0 ?_
  obtain ⟨g3, h⟩ := gd h
  obtain ⟨g4, h⟩ := gd h
  refine r_iaload (pc := 5) dX7_undoFaulted_5 g3 g4 ?_
  refine r_iconst (pc := 6) dX7_undoFaulted_6 kc_iconst_1 ?_
  refine r_icmp_ne (pc := 7) (tgt := 21) dX7_undoFaulted_7 rfl (fun c => ?_) (fun c => ?_)
  · have h := ie h c
    cases h
    exact r_vret dX7_undoFaulted_21
  · have h := it h c
    refine r_aload_n (pc := 10) dX7_undoFaulted_10 rfl 0 rfl ?_
    obtain ⟨a5, ha5, h⟩ := ob h
    refine r_getS (pc := 11) dX7_undoFaulted_11 fgX7_34 rfl g1 ha5 ?_
    refine r_aload_n (pc := 14) dX7_undoFaulted_14 rfl 1 rfl ?_
    obtain ⟨a6, ha6, h⟩ := ob h
    refine r_ref0 ha6 ?_
    obtain ⟨g7, h⟩ := gd h
    refine r_getI (pc := 15) dX7_undoFaulted_15 fgX7_127 rfl g7 ?_
    obtain ⟨g8, h⟩ := gd h
    obtain ⟨⟨I9, J10⟩, hc11, h⟩ := ob h
    refine r_callV0 (pc := 18) (av := [vI (I a6 10)]) (S := []) dX7_undoFaulted_18 (kX8_undoTo hc11) g8 rfl mkX7_272 mwX8_undoTo rfl ⟨Nat.le_of_ble_eq_true rfl, Nat.le_of_ble_eq_true rfl⟩ (Nat.le_of_ble_eq_true rfl) ⟨Nat.le_refl _, Nat.le_refl _⟩ (fun b => b) ?_
    cases h
    exact r_vret dX7_undoFaulted_21
abbrev WX7_goesAgain (G : Gx) (l : Launch) (σ0 : Shp) (X1 : Stt) (rv : Option SV) : Stt → Nat → List (Nat × SV) → List SV → Prop := Wm G l yX7_goesAgain cX7_goesAgain 2 (some .boolean) (fun _ => True) (rmx 3 66 σ0 X1.1) σ0 (Qmx G σ0 X1 rv)
def fX7_goesAgain (σ : Shp) (I : Nat → Nat → Int32) (J : Nat → Nat → Int64) (R : Nat → Nat → Option Nat) (t : Nat) (x1 : Option Nat) : Option ((Nat → Nat → Int32) × (Nat → Nat → Int64) × (Int32)) :=
  if kdx σ t = 8 then
  (fX7_undoFaulted σ I J R t x1).bind fun (I2, J3) =>
  ((R t 5) : Option Nat).bind fun a5 =>
  if kdx σ a5 = 20 then
  if ¬ ((0 : Int32) < 0 ∨ lnx σ a5 ≤ Int32.toNatClampNeg (0 : Int32)) then
  if (I2 a5 (Int32.toNatClampNeg (0 : Int32))) = (1 : Int32) then
    (x1 : Option Nat).bind fun a8 =>
    if kdx σ a8 = 4 then
    if (I2 a8 5) ≤ (I2 a8 9) then
      some (I2, J3, (0 : Int32))
    else
      (fX7_counted σ I2 R t).bind fun (I10, r11) =>
      if r11 = 0 then
        some (I10, J3, (0 : Int32))
      else
        let I13 := u2 I10 a8 9 ((I10 a8 9) + (1 : Int32))
        let I14 := u2 I13 a8 3 ((I13 a8 2) + (1 : Int32))
        let I15 := u2 I14 a5 (Int32.toNatClampNeg (0 : Int32)) (0 : Int32)
        some (I15, J3, (1 : Int32))
    else none
  else
    some (I2, J3, (0 : Int32))
  else none
  else none
  else none
theorem kX7_goesAgain {G : Gx} {l : Launch} {σ : Shp} {I : Nat → Nat → Int32} {J : Nat → Nat → Int64} {D : Nat → Nat → UInt64} {R : Nat → Nat → Option Nat} {t : Nat} {x1 : Option Nat} {I9 : Nat → Nat → Int32} {J9 : Nat → Nat → Int64} {r9 : Int32} (h : fX7_goesAgain σ I J R t x1 = some (I9, J9, r9)) : Con G l yX7_goesAgain cX7_goesAgain 2 (some .boolean) 3 66 [vR (some t), vR x1] (σ, I, J, D, R) (σ, I9, J9, D, R) (some (vI r9)) := by
  unfold fX7_goesAgain at h
  refine Con.mk (by decide +kernel) rfl (Nat.le_of_ble_eq_true rfl) ?_
  show WX7_goesAgain G l σ (σ, I9, J9, D, R) (some (vI r9)) (σ, I, J, D, R) 0 _ []
  refine r_aload_n (pc := 0) dX7_goesAgain_0 rfl 0 rfl ?_
  refine r_aload_n (pc := 1) dX7_goesAgain_1 rfl 1 rfl ?_
  obtain ⟨g1, h⟩ := gd h
  obtain ⟨⟨I2, J3⟩, hc4, h⟩ := ob h
  refine r_callV0 (pc := 2) (av := [vR x1]) (S := []) dX7_goesAgain_2 (kX7_undoFaulted hc4) g1 rfl mkX7_260 mwX7_undoFaulted rfl ⟨Nat.le_of_ble_eq_true rfl, Nat.le_of_ble_eq_true rfl⟩ (Nat.le_of_ble_eq_true rfl) ⟨Nat.le_refl _, Nat.le_refl _⟩ (fun b => b) ?_
  refine r_aload_n (pc := 5) dX7_goesAgain_5 rfl 0 rfl ?_
  obtain ⟨a5, ha5, h⟩ := ob h
  refine r_getS (pc := 6) dX7_goesAgain_6 fgX7_44 rfl g1 ha5 ?_
  refine r_iconst (pc := 9) dX7_goesAgain_9 kc_iconst_0 ?_
  obtain ⟨g6, h⟩ := gd h
  obtain ⟨g7, h⟩ := gd h
  refine r_iaload (pc := 10) dX7_goesAgain_10 g6 g7 ?_
  refine r_iconst (pc := 11) dX7_goesAgain_11 kc_iconst_1 ?_
  refine r_icmp_ne (pc := 12) (tgt := 33) dX7_goesAgain_12 rfl (fun c => ?_) (fun c => ?_)
  · have h := ie h c
    refine r_iconst (pc := 33) dX7_goesAgain_33 kc_iconst_0 ?_
    cases h
    exact r_zret dX7_goesAgain_34 (Or.inl rfl)
  · have h := it h c
    refine r_aload_n (pc := 15) dX7_goesAgain_15 rfl 1 rfl ?_
    obtain ⟨a8, ha8, h⟩ := ob h
    refine r_ref0 ha8 ?_
    obtain ⟨g9, h⟩ := gd h
    refine r_getI (pc := 16) dX7_goesAgain_16 fgX7_117 rfl g9 ?_
    refine r_aload_n (pc := 19) dX7_goesAgain_19 rfl 1 rfl ?_
    refine r_ref0 ha8 ?_
    refine r_getI (pc := 20) dX7_goesAgain_20 fgX7_146 rfl g9 ?_
    refine r_icmp_ge (pc := 23) (tgt := 33) dX7_goesAgain_23 rfl (fun c => ?_) (fun c => ?_)
    · have h := it h c
      refine r_iconst (pc := 33) dX7_goesAgain_33 kc_iconst_0 ?_
      cases h
      exact r_zret dX7_goesAgain_34 (Or.inl rfl)
    · have h := ie h c
      refine r_aload_n (pc := 26) dX7_goesAgain_26 rfl 0 rfl ?_
      obtain ⟨⟨I10, r11⟩, hc12, h⟩ := ob h
      refine r_callV1 (pc := 27) (av := []) (S := []) dX7_goesAgain_27 (kX7_counted hc12) g1 rfl mkX7_161 mwX7_counted rfl ⟨Nat.le_of_ble_eq_true rfl, Nat.le_of_ble_eq_true rfl⟩ (Nat.le_of_ble_eq_true rfl) ⟨Nat.le_refl _, Nat.le_refl _⟩ (fun b => b) ?_
      refine r_ifne (pc := 30) (tgt := 35) dX7_goesAgain_30 rfl (fun c => ?_) (fun c => ?_)
      · have h := ie h c
        refine r_aload_n (pc := 35) dX7_goesAgain_35 rfl 1 rfl ?_
        refine r_ref0 ha8 ?_
        refine r_dup (pc := 36) dX7_goesAgain_36 rfl ?_
        refine r_getI (pc := 37) dX7_goesAgain_37 fgX7_117 rfl g9 ?_
        refine r_iconst (pc := 40) dX7_goesAgain_40 kc_iconst_1 ?_
        refine r_iadd (pc := 41) dX7_goesAgain_41 ?_
        refine r_putI (pc := 42) dX7_goesAgain_42 fwX7_117 rfl g9 ?_
        refine r_aload_n (pc := 45) dX7_goesAgain_45 rfl 1 rfl ?_
        refine r_ref0 ha8 ?_
        refine r_aload_n (pc := 46) dX7_goesAgain_46 rfl 1 rfl ?_
        refine r_ref0 ha8 ?_
        refine r_getI (pc := 47) dX7_goesAgain_47 fgX7_136 rfl g9 ?_
        refine r_iconst (pc := 50) dX7_goesAgain_50 kc_iconst_1 ?_
        refine r_iadd (pc := 51) dX7_goesAgain_51 ?_
        refine r_putI (pc := 52) dX7_goesAgain_52 fwX7_82 rfl g9 ?_
        refine r_aload_n (pc := 55) dX7_goesAgain_55 rfl 0 rfl ?_
        refine r_getS (pc := 56) dX7_goesAgain_56 fgX7_44 rfl g1 ha5 ?_
        refine r_iconst (pc := 59) dX7_goesAgain_59 kc_iconst_0 ?_
        refine r_iconst (pc := 60) dX7_goesAgain_60 kc_iconst_0 ?_
        refine r_iastore (pc := 61) dX7_goesAgain_61 g6 g7 ?_
        refine r_iconst (pc := 62) dX7_goesAgain_62 kc_iconst_1 ?_
        cases h
        exact r_zret dX7_goesAgain_63 (Or.inr rfl)
      · have h := it h c
        refine r_iconst (pc := 33) dX7_goesAgain_33 kc_iconst_0 ?_
        cases h
        exact r_zret dX7_goesAgain_34 (Or.inl rfl)
abbrev WX7_enterPart (G : Gx) (l : Launch) (σ0 : Shp) (X1 : Stt) (rv : Option SV) : Stt → Nat → List (Nat × SV) → List SV → Prop := Wm G l yX7_enterPart cX7_enterPart 4 none (fun _ => True) (rmx 2 44 σ0 X1.1) σ0 (Qmx G σ0 X1 rv)
def fX7_enterPart (σ : Shp) (I : Nat → Nat → Int32) (R : Nat → Nat → Option Nat) (t : Nat) (x1 : Option Nat) (x2 : Int32) (x3 : Int32) : Option ((Nat → Nat → Int32)) :=
  (x1 : Option Nat).bind fun a1 =>
  if kdx σ a1 = 4 then
  let I3 := u2 I a1 8 x3
  let I4 := u2 I3 a1 3 (x2 + (1 : Int32))
  if kdx σ t = 8 then
  ((R t 2) : Option Nat).bind fun a6 =>
  if kdx σ a6 = 7 then
  (fX6_endAt σ I4 R a6 (I4 a1 1) x2).bind fun r8 =>
  let I10 := u2 I4 a1 4 r8
  ((R t 5) : Option Nat).bind fun a11 =>
  if kdx σ a11 = 20 then
  if ¬ ((0 : Int32) < 0 ∨ lnx σ a11 ≤ Int32.toNatClampNeg (0 : Int32)) then
  let I14 := u2 I10 a11 (Int32.toNatClampNeg (0 : Int32)) (0 : Int32)
  some I14
  else none
  else none
  else none
  else none
  else none
theorem kX7_enterPart {G : Gx} {l : Launch} {σ : Shp} {I : Nat → Nat → Int32} {J : Nat → Nat → Int64} {D : Nat → Nat → UInt64} {R : Nat → Nat → Option Nat} {t : Nat} {x1 : Option Nat} {x2 : Int32} {x3 : Int32} {I9 : Nat → Nat → Int32} (h : fX7_enterPart σ I R t x1 x2 x3 = some I9) : Con G l yX7_enterPart cX7_enterPart 4 none 2 44 [vR (some t), vR x1, vI x2, vI x3] (σ, I, J, D, R) (σ, I9, J, D, R) none := by
  unfold fX7_enterPart at h
  refine Con.mk (by decide +kernel) rfl (Nat.le_of_ble_eq_true rfl) ?_
  show WX7_enterPart G l σ (σ, I9, J, D, R) none (σ, I, J, D, R) 0 _ []
  refine r_aload_n (pc := 0) dX7_enterPart_0 rfl 1 rfl ?_
  refine r_iload_n (pc := 1) dX7_enterPart_1 rfl 3 rfl ?_
  obtain ⟨a1, ha1, h⟩ := ob h
  refine r_ref1 ha1 ?_
  obtain ⟨g2, h⟩ := gd h
  refine r_putI (pc := 2) dX7_enterPart_2 fwX7_114 rfl g2 ?_
  refine r_aload_n (pc := 5) dX7_enterPart_5 rfl 1 rfl ?_
  refine r_ref0 ha1 ?_
  refine r_iload_n (pc := 6) dX7_enterPart_6 rfl 2 rfl ?_
  refine r_iconst (pc := 7) dX7_enterPart_7 kc_iconst_1 ?_
  refine r_iadd (pc := 8) dX7_enterPart_8 ?_
  refine r_putI (pc := 9) dX7_enterPart_9 fwX7_82 rfl g2 ?_
  refine r_aload_n (pc := 12) dX7_enterPart_12 rfl 1 rfl ?_
  refine r_ref0 ha1 ?_
  refine r_aload_n (pc := 13) dX7_enterPart_13 rfl 0 rfl ?_
  obtain ⟨g5, h⟩ := gd h
  obtain ⟨a6, ha6, h⟩ := ob h
  refine r_getS (pc := 14) dX7_enterPart_14 fgX7_27 rfl g5 ha6 ?_
  refine r_aload_n (pc := 17) dX7_enterPart_17 rfl 1 rfl ?_
  refine r_ref0 ha1 ?_
  refine r_getI (pc := 18) dX7_enterPart_18 fgX7_96 rfl g2 ?_
  refine r_iload_n (pc := 21) dX7_enterPart_21 rfl 2 rfl ?_
  obtain ⟨g7, h⟩ := gd h
  obtain ⟨r8, hc9, h⟩ := ob h
  refine r_callV1 (pc := 22) (av := [vI ((u2 (u2 I a1 8 x3) a1 3 (x2 + (1 : Int32))) a1 1), vI x2]) (S := [vR (some a1)]) dX7_enterPart_22 (kX6_endAt hc9) g7 rfl mkX7_143 mwX6_endAt rfl ⟨Nat.le_of_ble_eq_true rfl, Nat.le_of_ble_eq_true rfl⟩ (Nat.le_of_ble_eq_true rfl) ⟨Nat.le_refl _, Nat.le_refl _⟩ (fun b => b) ?_
  refine r_putI (pc := 25) dX7_enterPart_25 fwX7_85 rfl g2 ?_
  refine r_aload_n (pc := 28) dX7_enterPart_28 rfl 0 rfl ?_
  obtain ⟨a11, ha11, h⟩ := ob h
  refine r_getS (pc := 29) dX7_enterPart_29 fgX7_44 rfl g5 ha11 ?_
  refine r_iconst (pc := 32) dX7_enterPart_32 kc_iconst_0 ?_
  refine r_iconst (pc := 33) dX7_enterPart_33 kc_iconst_0 ?_
  obtain ⟨g12, h⟩ := gd h
  obtain ⟨g13, h⟩ := gd h
  refine r_iastore (pc := 34) dX7_enterPart_34 g12 g13 ?_
  cases h
  exact r_vret dX7_enterPart_35
abbrev WX7_entersLast (G : Gx) (l : Launch) (σ0 : Shp) (X1 : Stt) (rv : Option SV) : Stt → Nat → List (Nat × SV) → List SV → Prop := Wm G l yX7_entersLast cX7_entersLast 4 (some .boolean) (fun _ => True) (rmx 3 67 σ0 X1.1) σ0 (Qmx G σ0 X1 rv)
def fX7_entersLast_l95  (σ : Shp) (R : Nat → Nat → Option Nat) (t : Nat) : Nat → (Nat → Nat → Int32) → (Option Nat) → (Int32) → (Int32) → Option ((Nat → Nat → Int32) × (Int32))
  | 0, _, _, _, _ => none
  | n + 1, I, x1, x2, x3 =>
    if (6 : Int32) ≤ x3 then
      if kdx σ t = 8 then
      (fX7_enterPart σ I R t x1 x2 (2 : Int32)).bind fun I18 =>
      some (I18, (1 : Int32))
      else none
    else
      (x1 : Option Nat).bind fun a20 =>
      if kdx σ a20 = 4 then
      ((R a20 12) : Option Nat).bind fun a22 =>
      if kdx σ t = 8 then
      ((R t 5) : Option Nat).bind fun a24 =>
      if kdx σ a24 = 20 then
      if ¬ (x3 < 0 ∨ lnx σ a24 ≤ Int32.toNatClampNeg x3) then
      if kdx σ a22 = 20 then
      if ¬ (x3 < 0 ∨ lnx σ a22 ≤ Int32.toNatClampNeg x3) then
      let I29 := u2 I a22 (Int32.toNatClampNeg x3) (I a24 (Int32.toNatClampNeg x3))
      let v30 := x3 + (1 : Int32)
      fX7_entersLast_l95 σ R t n I29 x1 x2 v30
      else none
      else none
      else none
      else none
      else none
      else none
theorem wX7_entersLast_l95 {G : Gx} {l : Launch} {σ : Shp} {J : Nat → Nat → Int64} {D : Nat → Nat → UInt64} {R : Nat → Nat → Option Nat} {t : Nat} {I9 : Nat → Nat → Int32} {r9 : Int32} : ∀ (n : Nat) (I : Nat → Nat → Int32) (x1 : Option Nat) (x2 : Int32) (x3 : Int32), fX7_entersLast_l95 σ R t n I x1 x2 x3 = some (I9, r9) → WX7_entersLast G l σ (σ, I9, J, D, R) (some (vI r9)) (σ, I, J, D, R) 95 [(0, vR (some t)), (1, vR x1), (2, vI x2), (3, vI x3)] [] := by
  intro n
  induction n with
  | zero =>
    intro I x1 x2 x3 h
    have h : none = some _ := h
    cases h
  | succ n ih =>
    intro I x1 x2 x3 h
    rw [fX7_entersLast_l95] at h
    refine r_iload_n (pc := 95) dX7_entersLast_95 rfl 3 rfl ?_
    refine r_bipush (pc := 96) dX7_entersLast_96 kc_bipush_6 ?_
    refine r_icmp_ge (pc := 98) (tgt := 119) dX7_entersLast_98 rfl (fun c => ?_) (fun c => ?_)
    · have h := it h c
      refine r_aload_n (pc := 119) dX7_entersLast_119 rfl 0 rfl ?_
      refine r_aload_n (pc := 120) dX7_entersLast_120 rfl 1 rfl ?_
      refine r_iload_n (pc := 121) dX7_entersLast_121 rfl 2 rfl ?_
      refine r_iconst (pc := 122) dX7_entersLast_122 kc_iconst_2 ?_
      obtain ⟨g17, h⟩ := gd h
      obtain ⟨I18, hc19, h⟩ := ob h
      refine r_callV0 (pc := 123) (av := [vR x1, vI x2, vI (2 : Int32)]) (S := []) dX7_entersLast_123 (kX7_enterPart hc19) g17 rfl mkX7_284 mwX7_enterPart rfl ⟨Nat.le_of_ble_eq_true rfl, Nat.le_of_ble_eq_true rfl⟩ (Nat.le_of_ble_eq_true rfl) ⟨Nat.le_refl _, Nat.le_refl _⟩ (fun b => b) ?_
      refine r_iconst (pc := 126) dX7_entersLast_126 kc_iconst_1 ?_
      cases h
      exact r_zret dX7_entersLast_127 (Or.inr rfl)
    · have h := ie h c
      refine r_aload_n (pc := 101) dX7_entersLast_101 rfl 1 rfl ?_
      obtain ⟨a20, ha20, h⟩ := ob h
      refine r_ref0 ha20 ?_
      obtain ⟨g21, h⟩ := gd h
      obtain ⟨a22, ha22, h⟩ := ob h
      refine r_getS (pc := 102) dX7_entersLast_102 fgX7_288 rfl g21 ha22 ?_
      refine r_iload_n (pc := 105) dX7_entersLast_105 rfl 3 rfl ?_
      refine r_aload_n (pc := 106) dX7_entersLast_106 rfl 0 rfl ?_
      obtain ⟨g23, h⟩ := gd h
      obtain ⟨a24, ha24, h⟩ := ob h
      refine r_getS (pc := 107) dX7_entersLast_107 fgX7_44 rfl g23 ha24 ?_
      refine r_iload_n (pc := 110) dX7_entersLast_110 rfl 3 rfl ?_
      obtain ⟨g25, h⟩ := gd h
      obtain ⟨g26, h⟩ := gd h
      refine r_iaload (pc := 111) dX7_entersLast_111 g25 g26 ?_
      obtain ⟨g27, h⟩ := gd h
      obtain ⟨g28, h⟩ := gd h
      refine r_iastore (pc := 112) dX7_entersLast_112 g27 g28 ?_
      refine r_iinc (pc := 113) (v := (x3 + (1 : Int32))) (L' := [(3, vI (x3 + (1 : Int32))), (0, vR (some t)), (1, vR x1), (2, vI x2)]) dX7_entersLast_113 3 rfl (kc_inc_1 _) (by decide) rfl ?_
      refine r_goto (pc := 116) (tgt := 95) dX7_entersLast_116 rfl ?_
      refine r_sub [1, 2, 3, 0] rfl ?_
      exact ih _ _ _ _ h
def fX7_entersLast_b64  (σ : Shp) (R : Nat → Nat → Option Nat) (t : Nat) (I : Nat → Nat → Int32) (x1 : Option Nat) (x2 : Int32) : Option ((Nat → Nat → Int32) × (Int32)) :=
  if kdx σ t = 8 then
  ((R t 2) : Option Nat).bind fun a10 =>
  (x1 : Option Nat).bind fun a11 =>
  if kdx σ a11 = 4 then
  if kdx σ a10 = 7 then
  (fX6_opAt σ I R a10 (I a11 1) x2).bind fun r14 =>
  if r14 = (18 : Int32) then
    let I16 := u2 I t 11 ((I t 11) + (1 : Int32))
    fX7_entersLast_l95 σ R t FUx I16 x1 x2 (0 : Int32)
  else
    some (I, (0 : Int32))
  else none
  else none
  else none
theorem wX7_entersLast_b64 {G : Gx} {l : Launch} {σ : Shp} {I : Nat → Nat → Int32} {J : Nat → Nat → Int64} {D : Nat → Nat → UInt64} {R : Nat → Nat → Option Nat} {t : Nat} {I9 : Nat → Nat → Int32} {r9 : Int32} {x1 : Option Nat} {x2 : Int32} (h : fX7_entersLast_b64 σ R t I x1 x2 = some (I9, r9)) : WX7_entersLast G l σ (σ, I9, J, D, R) (some (vI r9)) (σ, I, J, D, R) 64 [(0, vR (some t)), (1, vR x1), (2, vI x2)] [] := by
  unfold fX7_entersLast_b64 at h
  refine r_aload_n (pc := 64) dX7_entersLast_64 rfl 0 rfl ?_
  obtain ⟨g9, h⟩ := gd h
  obtain ⟨a10, ha10, h⟩ := ob h
  refine r_getS (pc := 65) dX7_entersLast_65 fgX7_27 rfl g9 ha10 ?_
  refine r_aload_n (pc := 68) dX7_entersLast_68 rfl 1 rfl ?_
  obtain ⟨a11, ha11, h⟩ := ob h
  refine r_ref0 ha11 ?_
  obtain ⟨g12, h⟩ := gd h
  refine r_getI (pc := 69) dX7_entersLast_69 fgX7_96 rfl g12 ?_
  refine r_iload_n (pc := 72) dX7_entersLast_72 rfl 2 rfl ?_
  obtain ⟨g13, h⟩ := gd h
  obtain ⟨r14, hc15, h⟩ := ob h
  refine r_callV1 (pc := 73) (av := [vI (I a11 1), vI x2]) (S := []) dX7_entersLast_73 (kX6_opAt hc15) g13 rfl mkX7_102 mwX6_opAt rfl ⟨Nat.le_of_ble_eq_true rfl, Nat.le_of_ble_eq_true rfl⟩ (Nat.le_of_ble_eq_true rfl) ⟨Nat.le_refl _, Nat.le_refl _⟩ (fun b => b) ?_
  refine r_bipush (pc := 76) dX7_entersLast_76 kc_bipush_18 ?_
  refine r_icmp_eq (pc := 78) (tgt := 83) dX7_entersLast_78 rfl (fun c => ?_) (fun c => ?_)
  · have h := it h c
    refine r_aload_n (pc := 83) dX7_entersLast_83 rfl 0 rfl ?_
    refine r_dup (pc := 84) dX7_entersLast_84 rfl ?_
    refine r_getI (pc := 85) dX7_entersLast_85 fgX7_61 rfl g9 ?_
    refine r_iconst (pc := 88) dX7_entersLast_88 kc_iconst_1 ?_
    refine r_iadd (pc := 89) dX7_entersLast_89 ?_
    refine r_putI (pc := 90) dX7_entersLast_90 fwX7_61 rfl g9 ?_
    refine r_iconst (pc := 93) dX7_entersLast_93 kc_iconst_0 ?_
    refine r_istore_n (pc := 94) (L' := [(3, vI (0 : Int32)), (0, vR (some t)), (1, vR x1), (2, vI x2)]) dX7_entersLast_94 rfl (by decide) rfl ?_
    refine r_sub [1, 2, 3, 0] rfl ?_
    exact wX7_entersLast_l95 _ _ _ _ _ h
  · have h := ie h c
    refine r_iconst (pc := 81) dX7_entersLast_81 kc_iconst_0 ?_
    cases h
    exact r_zret dX7_entersLast_82 (Or.inl rfl)
def fX7_entersLast_l20  (σ : Shp) (R : Nat → Nat → Option Nat) (t : Nat) : Nat → (Nat → Nat → Int32) → (Option Nat) → (Int32) → (Int32) → Option ((Nat → Nat → Int32) × (Int32))
  | 0, _, _, _, _ => none
  | n + 1, I, x1, x2, x3 =>
    if (40 : Int32) ≤ x3 then
      fX7_entersLast_b64 σ R t I x1 x2
    else
      if kdx σ t = 8 then
      ((R t 2) : Option Nat).bind fun a32 =>
      (x1 : Option Nat).bind fun a33 =>
      if kdx σ a33 = 4 then
      if kdx σ a32 = 7 then
      (fX6_opAt σ I R a32 (I a33 1) x2).bind fun r36 =>
      if r36 = (17 : Int32) then
        (fX6_endAt σ I R a32 (I a33 1) x2).bind fun r38 =>
        let v40 := (r38 + (1 : Int32))
        let v41 := x3 + (1 : Int32)
        fX7_entersLast_l20 σ R t n I x1 v40 v41
      else
        fX7_entersLast_b64 σ R t I x1 x2
      else none
      else none
      else none
theorem wX7_entersLast_l20 {G : Gx} {l : Launch} {σ : Shp} {J : Nat → Nat → Int64} {D : Nat → Nat → UInt64} {R : Nat → Nat → Option Nat} {t : Nat} {I9 : Nat → Nat → Int32} {r9 : Int32} : ∀ (n : Nat) (I : Nat → Nat → Int32) (x1 : Option Nat) (x2 : Int32) (x3 : Int32), fX7_entersLast_l20 σ R t n I x1 x2 x3 = some (I9, r9) → WX7_entersLast G l σ (σ, I9, J, D, R) (some (vI r9)) (σ, I, J, D, R) 20 [(0, vR (some t)), (1, vR x1), (2, vI x2), (3, vI x3)] [] := by
  intro n
  induction n with
  | zero =>
    intro I x1 x2 x3 h
    have h : none = some _ := h
    cases h
  | succ n ih =>
    intro I x1 x2 x3 h
    rw [fX7_entersLast_l20] at h
    refine r_iload_n (pc := 20) dX7_entersLast_20 rfl 3 rfl ?_
    refine r_bipush (pc := 21) dX7_entersLast_21 kc_bipush_40 ?_
    refine r_icmp_ge (pc := 23) (tgt := 64) dX7_entersLast_23 rfl (fun c => ?_) (fun c => ?_)
    · have h := it h c
      refine r_sub [0, 1, 2] rfl ?_
      exact wX7_entersLast_b64 h
    · have h := ie h c
      refine r_aload_n (pc := 26) dX7_entersLast_26 rfl 0 rfl ?_
      obtain ⟨g31, h⟩ := gd h
      obtain ⟨a32, ha32, h⟩ := ob h
      refine r_getS (pc := 27) dX7_entersLast_27 fgX7_27 rfl g31 ha32 ?_
      refine r_aload_n (pc := 30) dX7_entersLast_30 rfl 1 rfl ?_
      obtain ⟨a33, ha33, h⟩ := ob h
      refine r_ref0 ha33 ?_
      obtain ⟨g34, h⟩ := gd h
      refine r_getI (pc := 31) dX7_entersLast_31 fgX7_96 rfl g34 ?_
      refine r_iload_n (pc := 34) dX7_entersLast_34 rfl 2 rfl ?_
      obtain ⟨g35, h⟩ := gd h
      obtain ⟨r36, hc37, h⟩ := ob h
      refine r_callV1 (pc := 35) (av := [vI (I a33 1), vI x2]) (S := []) dX7_entersLast_35 (kX6_opAt hc37) g35 rfl mkX7_102 mwX6_opAt rfl ⟨Nat.le_of_ble_eq_true rfl, Nat.le_of_ble_eq_true rfl⟩ (Nat.le_of_ble_eq_true rfl) ⟨Nat.le_refl _, Nat.le_refl _⟩ (fun b => b) ?_
      refine r_bipush (pc := 38) dX7_entersLast_38 kc_bipush_17 ?_
      refine r_icmp_ne (pc := 40) (tgt := 64) dX7_entersLast_40 rfl (fun c => ?_) (fun c => ?_)
      · have h := ie h c
        refine r_sub [0, 1, 2] rfl ?_
        exact wX7_entersLast_b64 h
      · have h := it h c
        refine r_aload_n (pc := 43) dX7_entersLast_43 rfl 0 rfl ?_
        refine r_getS (pc := 44) dX7_entersLast_44 fgX7_27 rfl g31 ha32 ?_
        refine r_aload_n (pc := 47) dX7_entersLast_47 rfl 1 rfl ?_
        refine r_ref0 ha33 ?_
        refine r_getI (pc := 48) dX7_entersLast_48 fgX7_96 rfl g34 ?_
        refine r_iload_n (pc := 51) dX7_entersLast_51 rfl 2 rfl ?_
        obtain ⟨r38, hc39, h⟩ := ob h
        refine r_callV1 (pc := 52) (av := [vI (I a33 1), vI x2]) (S := []) dX7_entersLast_52 (kX6_endAt hc39) g35 rfl mkX7_143 mwX6_endAt rfl ⟨Nat.le_of_ble_eq_true rfl, Nat.le_of_ble_eq_true rfl⟩ (Nat.le_of_ble_eq_true rfl) ⟨Nat.le_refl _, Nat.le_refl _⟩ (fun b => b) ?_
        refine r_iconst (pc := 55) dX7_entersLast_55 kc_iconst_1 ?_
        refine r_iadd (pc := 56) dX7_entersLast_56 ?_
        refine r_istore_n (pc := 57) (L' := [(2, vI (r38 + (1 : Int32))), (0, vR (some t)), (1, vR x1), (3, vI x3)]) dX7_entersLast_57 rfl (by decide) rfl ?_
        refine r_iinc (pc := 58) (v := (x3 + (1 : Int32))) (L' := [(3, vI (x3 + (1 : Int32))), (2, vI (r38 + (1 : Int32))), (0, vR (some t)), (1, vR x1)]) dX7_entersLast_58 3 rfl (kc_inc_1 _) (by decide) rfl ?_
        refine r_goto (pc := 61) (tgt := 20) dX7_entersLast_61 rfl ?_
        refine r_sub [2, 3, 1, 0] rfl ?_
        exact ih _ _ _ _ h
def fX7_entersLast (σ : Shp) (I : Nat → Nat → Int32) (R : Nat → Nat → Option Nat) (t : Nat) (x1 : Option Nat) : Option ((Nat → Nat → Int32) × (Int32)) :=
  if kdx σ t = 8 then
  ((R t 2) : Option Nat).bind fun a2 =>
  (x1 : Option Nat).bind fun a3 =>
  if kdx σ a3 = 4 then
  if kdx σ a2 = 7 then
  (fX6_endAt σ I R a2 (I a3 1) (I a3 2)).bind fun r6 =>
  let v8 := (r6 + (1 : Int32))
  fX7_entersLast_l20 σ R t FUx I x1 v8 (0 : Int32)
  else none
  else none
  else none
theorem kX7_entersLast {G : Gx} {l : Launch} {σ : Shp} {I : Nat → Nat → Int32} {J : Nat → Nat → Int64} {D : Nat → Nat → UInt64} {R : Nat → Nat → Option Nat} {t : Nat} {x1 : Option Nat} {I9 : Nat → Nat → Int32} {r9 : Int32} (h : fX7_entersLast σ I R t x1 = some (I9, r9)) : Con G l yX7_entersLast cX7_entersLast 4 (some .boolean) 3 67 [vR (some t), vR x1] (σ, I, J, D, R) (σ, I9, J, D, R) (some (vI r9)) := by
  unfold fX7_entersLast at h
  refine Con.mk (by decide +kernel) rfl (Nat.le_of_ble_eq_true rfl) ?_
  show WX7_entersLast G l σ (σ, I9, J, D, R) (some (vI r9)) (σ, I, J, D, R) 0 _ []
  refine r_aload_n (pc := 0) dX7_entersLast_0 rfl 0 rfl ?_
  obtain ⟨g1, h⟩ := gd h
  obtain ⟨a2, ha2, h⟩ := ob h
  refine r_getS (pc := 1) dX7_entersLast_1 fgX7_27 rfl g1 ha2 ?_
  refine r_aload_n (pc := 4) dX7_entersLast_4 rfl 1 rfl ?_
  obtain ⟨a3, ha3, h⟩ := ob h
  refine r_ref0 ha3 ?_
  obtain ⟨g4, h⟩ := gd h
  refine r_getI (pc := 5) dX7_entersLast_5 fgX7_96 rfl g4 ?_
  refine r_aload_n (pc := 8) dX7_entersLast_8 rfl 1 rfl ?_
  refine r_ref0 ha3 ?_
  refine r_getI (pc := 9) dX7_entersLast_9 fgX7_136 rfl g4 ?_
  obtain ⟨g5, h⟩ := gd h
  obtain ⟨r6, hc7, h⟩ := ob h
  refine r_callV1 (pc := 12) (av := [vI (I a3 1), vI (I a3 2)]) (S := []) dX7_entersLast_12 (kX6_endAt hc7) g5 rfl mkX7_143 mwX6_endAt rfl ⟨Nat.le_of_ble_eq_true rfl, Nat.le_of_ble_eq_true rfl⟩ (Nat.le_of_ble_eq_true rfl) ⟨Nat.le_refl _, Nat.le_refl _⟩ (fun b => b) ?_
  refine r_iconst (pc := 15) dX7_entersLast_15 kc_iconst_1 ?_
  refine r_iadd (pc := 16) dX7_entersLast_16 ?_
  refine r_istore_n (pc := 17) (L' := [(2, vI (r6 + (1 : Int32))), (0, vR (some t)), (1, vR x1)]) dX7_entersLast_17 rfl (by decide) rfl ?_
  refine r_iconst (pc := 18) dX7_entersLast_18 kc_iconst_0 ?_
  refine r_istore_n (pc := 19) (L' := [(3, vI (0 : Int32)), (2, vI (r6 + (1 : Int32))), (0, vR (some t)), (1, vR x1)]) dX7_entersLast_19 rfl (by decide) rfl ?_
  refine r_sub [2, 3, 1, 0] rfl ?_
  exact wX7_entersLast_l20 _ _ _ _ _ h
abbrev WX7_meets (G : Gx) (l : Launch) (σ0 : Shp) (X1 : Stt) (rv : Option SV) : Stt → Nat → List (Nat × SV) → List SV → Prop := Wm G l yX7_meets cX7_meets 5 (some .boolean) (fun _ => True) (rmx 3 67 σ0 X1.1) σ0 (Qmx G σ0 X1 rv)
def fX7_meets_b73  (σ : Shp) (R : Nat → Nat → Option Nat) (t : Nat) (I : Nat → Nat → Int32) (x1 : Option Nat) (x2 : Int32) : Option ((Nat → Nat → Int32) × (Int32)) :=
  if kdx σ t = 8 then
  let I19 := u2 I t 10 ((I t 10) + (1 : Int32))
  ((R t 5) : Option Nat).bind fun a20 =>
  if kdx σ a20 = 20 then
  if ¬ ((1 : Int32) < 0 ∨ lnx σ a20 ≤ Int32.toNatClampNeg (1 : Int32)) then
  (x1 : Option Nat).bind fun a23 =>
  if kdx σ a23 = 4 then
  let I25 := u2 I19 a23 11 (I19 a20 (Int32.toNatClampNeg (1 : Int32)))
  (fX7_enterPart σ I25 R t (some a23) x2 (1 : Int32)).bind fun I26 =>
  some (I26, (1 : Int32))
  else none
  else none
  else none
  else none
theorem wX7_meets_b73 {G : Gx} {l : Launch} {σ : Shp} {I : Nat → Nat → Int32} {J : Nat → Nat → Int64} {D : Nat → Nat → UInt64} {R : Nat → Nat → Option Nat} {t : Nat} {I9 : Nat → Nat → Int32} {r9 : Int32} {x1 : Option Nat} {x2 : Int32} (h : fX7_meets_b73 σ R t I x1 x2 = some (I9, r9)) : WX7_meets G l σ (σ, I9, J, D, R) (some (vI r9)) (σ, I, J, D, R) 73 [(0, vR (some t)), (1, vR x1), (2, vI x2)] [] := by
  unfold fX7_meets_b73 at h
  refine r_aload_n (pc := 73) dX7_meets_73 rfl 0 rfl ?_
  refine r_dup (pc := 74) dX7_meets_74 rfl ?_
  obtain ⟨g18, h⟩ := gd h
  refine r_getI (pc := 75) dX7_meets_75 fgX7_58 rfl g18 ?_
  refine r_iconst (pc := 78) dX7_meets_78 kc_iconst_1 ?_
  refine r_iadd (pc := 79) dX7_meets_79 ?_
  refine r_putI (pc := 80) dX7_meets_80 fwX7_58 rfl g18 ?_
  refine r_aload_n (pc := 83) dX7_meets_83 rfl 1 rfl ?_
  refine r_aload_n (pc := 84) dX7_meets_84 rfl 0 rfl ?_
  obtain ⟨a20, ha20, h⟩ := ob h
  refine r_getS (pc := 85) dX7_meets_85 fgX7_44 rfl g18 ha20 ?_
  refine r_iconst (pc := 88) dX7_meets_88 kc_iconst_1 ?_
  obtain ⟨g21, h⟩ := gd h
  obtain ⟨g22, h⟩ := gd h
  refine r_iaload (pc := 89) dX7_meets_89 g21 g22 ?_
  obtain ⟨a23, ha23, h⟩ := ob h
  refine r_ref1 ha23 ?_
  obtain ⟨g24, h⟩ := gd h
  refine r_putI (pc := 90) dX7_meets_90 fwX7_120 rfl g24 ?_
  refine r_aload_n (pc := 93) dX7_meets_93 rfl 0 rfl ?_
  refine r_aload_n (pc := 94) dX7_meets_94 rfl 1 rfl ?_
  refine r_ref0 ha23 ?_
  refine r_iload_n (pc := 95) dX7_meets_95 rfl 2 rfl ?_
  refine r_iconst (pc := 96) dX7_meets_96 kc_iconst_1 ?_
  obtain ⟨I26, hc27, h⟩ := ob h
  refine r_callV0 (pc := 97) (av := [vR (some a23), vI x2, vI (1 : Int32)]) (S := []) dX7_meets_97 (kX7_enterPart hc27) g18 rfl mkX7_284 mwX7_enterPart rfl ⟨Nat.le_of_ble_eq_true rfl, Nat.le_of_ble_eq_true rfl⟩ (Nat.le_of_ble_eq_true rfl) ⟨Nat.le_refl _, Nat.le_refl _⟩ (fun b => b) ?_
  refine r_iconst (pc := 100) dX7_meets_100 kc_iconst_1 ?_
  cases h
  exact r_zret dX7_meets_101 (Or.inr rfl)
def fX7_meets_l20  (σ : Shp) (R : Nat → Nat → Option Nat) (t : Nat) : Nat → (Nat → Nat → Int32) → (Option Nat) → (Int32) → (Int32) → Option ((Nat → Nat → Int32) × (Int32))
  | 0, _, _, _, _ => none
  | n + 1, I, x1, x2, x3 =>
    if (40 : Int32) ≤ x3 then
      some (I, (0 : Int32))
    else
      if kdx σ t = 8 then
      ((R t 2) : Option Nat).bind fun a10 =>
      (x1 : Option Nat).bind fun a11 =>
      if kdx σ a11 = 4 then
      if kdx σ a10 = 7 then
      (fX6_opAt σ I R a10 (I a11 1) x2).bind fun r14 =>
      if r14 = (17 : Int32) then
        (fX6_aAt σ I R a10 (I a11 1) x2).bind fun r16 =>
        if r16 = 0 then
          fX7_meets_b73 σ R t I x1 x2
        else
          ((R t 5) : Option Nat).bind fun a28 =>
          if kdx σ a28 = 20 then
          if ¬ ((1 : Int32) < 0 ∨ lnx σ a28 ≤ Int32.toNatClampNeg (1 : Int32)) then
          if r16 = (I a28 (Int32.toNatClampNeg (1 : Int32))) then
            fX7_meets_b73 σ R t I x1 x2
          else
            (fX6_endAt σ I R a10 (I a11 1) x2).bind fun r31 =>
            let v33 := (r31 + (1 : Int32))
            let v34 := x3 + (1 : Int32)
            fX7_meets_l20 σ R t n I x1 v33 v34
          else none
          else none
      else
        some (I, (0 : Int32))
      else none
      else none
      else none
theorem wX7_meets_l20 {G : Gx} {l : Launch} {σ : Shp} {J : Nat → Nat → Int64} {D : Nat → Nat → UInt64} {R : Nat → Nat → Option Nat} {t : Nat} {I9 : Nat → Nat → Int32} {r9 : Int32} : ∀ (n : Nat) (I : Nat → Nat → Int32) (x1 : Option Nat) (x2 : Int32) (x3 : Int32), fX7_meets_l20 σ R t n I x1 x2 x3 = some (I9, r9) → WX7_meets G l σ (σ, I9, J, D, R) (some (vI r9)) (σ, I, J, D, R) 20 [(0, vR (some t)), (1, vR x1), (2, vI x2), (3, vI x3)] [] := by
  intro n
  induction n with
  | zero =>
    intro I x1 x2 x3 h
    have h : none = some _ := h
    cases h
  | succ n ih =>
    intro I x1 x2 x3 h
    rw [fX7_meets_l20] at h
    refine r_iload_n (pc := 20) dX7_meets_20 rfl 3 rfl ?_
    refine r_bipush (pc := 21) dX7_meets_21 kc_bipush_40 ?_
    refine r_icmp_ge (pc := 23) (tgt := 123) dX7_meets_23 rfl (fun c => ?_) (fun c => ?_)
    · have h := it h c
      refine r_iconst (pc := 123) dX7_meets_123 kc_iconst_0 ?_
      cases h
      exact r_zret dX7_meets_124 (Or.inl rfl)
    · have h := ie h c
      refine r_aload_n (pc := 26) dX7_meets_26 rfl 0 rfl ?_
      obtain ⟨g9, h⟩ := gd h
      obtain ⟨a10, ha10, h⟩ := ob h
      refine r_getS (pc := 27) dX7_meets_27 fgX7_27 rfl g9 ha10 ?_
      refine r_aload_n (pc := 30) dX7_meets_30 rfl 1 rfl ?_
      obtain ⟨a11, ha11, h⟩ := ob h
      refine r_ref0 ha11 ?_
      obtain ⟨g12, h⟩ := gd h
      refine r_getI (pc := 31) dX7_meets_31 fgX7_96 rfl g12 ?_
      refine r_iload_n (pc := 34) dX7_meets_34 rfl 2 rfl ?_
      obtain ⟨g13, h⟩ := gd h
      obtain ⟨r14, hc15, h⟩ := ob h
      refine r_callV1 (pc := 35) (av := [vI (I a11 1), vI x2]) (S := []) dX7_meets_35 (kX6_opAt hc15) g13 rfl mkX7_102 mwX6_opAt rfl ⟨Nat.le_of_ble_eq_true rfl, Nat.le_of_ble_eq_true rfl⟩ (Nat.le_of_ble_eq_true rfl) ⟨Nat.le_refl _, Nat.le_refl _⟩ (fun b => b) ?_
      refine r_bipush (pc := 38) dX7_meets_38 kc_bipush_17 ?_
      refine r_icmp_ne (pc := 40) (tgt := 123) dX7_meets_40 rfl (fun c => ?_) (fun c => ?_)
      · have h := ie h c
        refine r_iconst (pc := 123) dX7_meets_123 kc_iconst_0 ?_
        cases h
        exact r_zret dX7_meets_124 (Or.inl rfl)
      · have h := it h c
        refine r_aload_n (pc := 43) dX7_meets_43 rfl 0 rfl ?_
        refine r_getS (pc := 44) dX7_meets_44 fgX7_27 rfl g9 ha10 ?_
        refine r_aload_n (pc := 47) dX7_meets_47 rfl 1 rfl ?_
        refine r_ref0 ha11 ?_
        refine r_getI (pc := 48) dX7_meets_48 fgX7_96 rfl g12 ?_
        refine r_iload_n (pc := 51) dX7_meets_51 rfl 2 rfl ?_
        obtain ⟨r16, hc17, h⟩ := ob h
        refine r_callV1 (pc := 52) (av := [vI (I a11 1), vI x2]) (S := []) dX7_meets_52 (kX6_aAt hc17) g13 rfl mkX7_106 mwX6_aAt rfl ⟨Nat.le_of_ble_eq_true rfl, Nat.le_of_ble_eq_true rfl⟩ (Nat.le_of_ble_eq_true rfl) ⟨Nat.le_refl _, Nat.le_refl _⟩ (fun b => b) ?_
        refine r_istore (pc := 55) (L' := [(4, vI r16), (0, vR (some t)), (1, vR x1), (2, vI x2), (3, vI x3)]) dX7_meets_55 (by decide) rfl ?_
        refine r_iload (pc := 57) dX7_meets_57 0 rfl ?_
        refine r_if_eq (pc := 59) (tgt := 73) dX7_meets_59 rfl (fun c => ?_) (fun c => ?_)
        · have h := it h c
          refine r_sub [1, 2, 3] rfl ?_
          exact wX7_meets_b73 h
        · have h := ie h c
          refine r_iload (pc := 62) dX7_meets_62 0 rfl ?_
          refine r_aload_n (pc := 64) dX7_meets_64 rfl 1 rfl ?_
          obtain ⟨a28, ha28, h⟩ := ob h
          refine r_getS (pc := 65) dX7_meets_65 fgX7_44 rfl g9 ha28 ?_
          refine r_iconst (pc := 68) dX7_meets_68 kc_iconst_1 ?_
          obtain ⟨g29, h⟩ := gd h
          obtain ⟨g30, h⟩ := gd h
          refine r_iaload (pc := 69) dX7_meets_69 g29 g30 ?_
          refine r_icmp_ne (pc := 70) (tgt := 102) dX7_meets_70 rfl (fun c => ?_) (fun c => ?_)
          · have h := ie h c
            refine r_aload_n (pc := 102) dX7_meets_102 rfl 1 rfl ?_
            refine r_getS (pc := 103) dX7_meets_103 fgX7_27 rfl g9 ha10 ?_
            refine r_aload_n (pc := 106) dX7_meets_106 rfl 2 rfl ?_
            refine r_ref0 ha11 ?_
            refine r_getI (pc := 107) dX7_meets_107 fgX7_96 rfl g12 ?_
            refine r_iload_n (pc := 110) dX7_meets_110 rfl 3 rfl ?_
            obtain ⟨r31, hc32, h⟩ := ob h
            refine r_callV1 (pc := 111) (av := [vI (I a11 1), vI x2]) (S := []) dX7_meets_111 (kX6_endAt hc32) g13 rfl mkX7_143 mwX6_endAt rfl ⟨Nat.le_of_ble_eq_true rfl, Nat.le_of_ble_eq_true rfl⟩ (Nat.le_of_ble_eq_true rfl) ⟨Nat.le_refl _, Nat.le_refl _⟩ (fun b => b) ?_
            refine r_iconst (pc := 114) dX7_meets_114 kc_iconst_1 ?_
            refine r_iadd (pc := 115) dX7_meets_115 ?_
            refine r_istore_n (pc := 116) (L' := [(2, vI (r31 + (1 : Int32))), (4, vI r16), (0, vR (some t)), (1, vR x1), (3, vI x3)]) dX7_meets_116 rfl (by decide) rfl ?_
            refine r_iinc (pc := 117) (v := (x3 + (1 : Int32))) (L' := [(3, vI (x3 + (1 : Int32))), (2, vI (r31 + (1 : Int32))), (4, vI r16), (0, vR (some t)), (1, vR x1)]) dX7_meets_117 4 rfl (kc_inc_1 _) (by decide) rfl ?_
            refine r_goto (pc := 120) (tgt := 20) dX7_meets_120 rfl ?_
            refine r_sub [3, 4, 1, 0] rfl ?_
            exact ih _ _ _ _ h
          · have h := it h c
            refine r_sub [1, 2, 3] rfl ?_
            exact wX7_meets_b73 h
def fX7_meets (σ : Shp) (I : Nat → Nat → Int32) (R : Nat → Nat → Option Nat) (t : Nat) (x1 : Option Nat) : Option ((Nat → Nat → Int32) × (Int32)) :=
  if kdx σ t = 8 then
  ((R t 2) : Option Nat).bind fun a2 =>
  (x1 : Option Nat).bind fun a3 =>
  if kdx σ a3 = 4 then
  if kdx σ a2 = 7 then
  (fX6_endAt σ I R a2 (I a3 1) (I a3 2)).bind fun r6 =>
  let v8 := (r6 + (1 : Int32))
  fX7_meets_l20 σ R t FUx I x1 v8 (0 : Int32)
  else none
  else none
  else none
theorem kX7_meets {G : Gx} {l : Launch} {σ : Shp} {I : Nat → Nat → Int32} {J : Nat → Nat → Int64} {D : Nat → Nat → UInt64} {R : Nat → Nat → Option Nat} {t : Nat} {x1 : Option Nat} {I9 : Nat → Nat → Int32} {r9 : Int32} (h : fX7_meets σ I R t x1 = some (I9, r9)) : Con G l yX7_meets cX7_meets 5 (some .boolean) 3 67 [vR (some t), vR x1] (σ, I, J, D, R) (σ, I9, J, D, R) (some (vI r9)) := by
  unfold fX7_meets at h
  refine Con.mk (by decide +kernel) rfl (Nat.le_of_ble_eq_true rfl) ?_
  show WX7_meets G l σ (σ, I9, J, D, R) (some (vI r9)) (σ, I, J, D, R) 0 _ []
  refine r_aload_n (pc := 0) dX7_meets_0 rfl 0 rfl ?_
  obtain ⟨g1, h⟩ := gd h
  obtain ⟨a2, ha2, h⟩ := ob h
  refine r_getS (pc := 1) dX7_meets_1 fgX7_27 rfl g1 ha2 ?_
  refine r_aload_n (pc := 4) dX7_meets_4 rfl 1 rfl ?_
  obtain ⟨a3, ha3, h⟩ := ob h
  refine r_ref0 ha3 ?_
  obtain ⟨g4, h⟩ := gd h
  refine r_getI (pc := 5) dX7_meets_5 fgX7_96 rfl g4 ?_
  refine r_aload_n (pc := 8) dX7_meets_8 rfl 1 rfl ?_
  refine r_ref0 ha3 ?_
  refine r_getI (pc := 9) dX7_meets_9 fgX7_136 rfl g4 ?_
  obtain ⟨g5, h⟩ := gd h
  obtain ⟨r6, hc7, h⟩ := ob h
  refine r_callV1 (pc := 12) (av := [vI (I a3 1), vI (I a3 2)]) (S := []) dX7_meets_12 (kX6_endAt hc7) g5 rfl mkX7_143 mwX6_endAt rfl ⟨Nat.le_of_ble_eq_true rfl, Nat.le_of_ble_eq_true rfl⟩ (Nat.le_of_ble_eq_true rfl) ⟨Nat.le_refl _, Nat.le_refl _⟩ (fun b => b) ?_
  refine r_iconst (pc := 15) dX7_meets_15 kc_iconst_1 ?_
  refine r_iadd (pc := 16) dX7_meets_16 ?_
  refine r_istore_n (pc := 17) (L' := [(2, vI (r6 + (1 : Int32))), (0, vR (some t)), (1, vR x1)]) dX7_meets_17 rfl (by decide) rfl ?_
  refine r_iconst (pc := 18) dX7_meets_18 kc_iconst_0 ?_
  refine r_istore_n (pc := 19) (L' := [(3, vI (0 : Int32)), (2, vI (r6 + (1 : Int32))), (0, vR (some t)), (1, vR x1)]) dX7_meets_19 rfl (by decide) rfl ?_
  refine r_sub [2, 3, 1, 0] rfl ?_
  exact wX7_meets_l20 _ _ _ _ _ h
abbrev WX7_settleLast (G : Gx) (l : Launch) (σ0 : Shp) (X1 : Stt) (rv : Option SV) : Stt → Nat → List (Nat × SV) → List SV → Prop := Wm G l yX7_settleLast cX7_settleLast 3 none (fun _ => True) (rmx 0 0 σ0 X1.1) σ0 (Qmx G σ0 X1 rv)
def fX7_settleLast_l11  (σ : Shp) (R : Nat → Nat → Option Nat) (t : Nat) : Nat → (Nat → Nat → Int32) → (Option Nat) → (Int32) → Option ((Nat → Nat → Int32))
  | 0, _, _, _ => none
  | n + 1, I, x1, x2 =>
    if (6 : Int32) ≤ x2 then
      some I
    else
      if kdx σ t = 8 then
      ((R t 5) : Option Nat).bind fun a14 =>
      (x1 : Option Nat).bind fun a15 =>
      if kdx σ a15 = 4 then
      ((R a15 12) : Option Nat).bind fun a17 =>
      if kdx σ a17 = 20 then
      if ¬ (x2 < 0 ∨ lnx σ a17 ≤ Int32.toNatClampNeg x2) then
      if kdx σ a14 = 20 then
      if ¬ (x2 < 0 ∨ lnx σ a14 ≤ Int32.toNatClampNeg x2) then
      let I22 := u2 I a14 (Int32.toNatClampNeg x2) (I a17 (Int32.toNatClampNeg x2))
      let v23 := x2 + (1 : Int32)
      fX7_settleLast_l11 σ R t n I22 x1 v23
      else none
      else none
      else none
      else none
      else none
      else none
theorem wX7_settleLast_l11 {G : Gx} {l : Launch} {σ : Shp} {J : Nat → Nat → Int64} {D : Nat → Nat → UInt64} {R : Nat → Nat → Option Nat} {t : Nat} {I9 : Nat → Nat → Int32} : ∀ (n : Nat) (I : Nat → Nat → Int32) (x1 : Option Nat) (x2 : Int32), fX7_settleLast_l11 σ R t n I x1 x2 = some I9 → WX7_settleLast G l σ (σ, I9, J, D, R) none (σ, I, J, D, R) 11 [(0, vR (some t)), (1, vR x1), (2, vI x2)] [] := by
  intro n
  induction n with
  | zero =>
    intro I x1 x2 h
    have h : none = some _ := h
    cases h
  | succ n ih =>
    intro I x1 x2 h
    rw [fX7_settleLast_l11] at h
    refine r_iload_n (pc := 11) dX7_settleLast_11 rfl 2 rfl ?_
    refine r_bipush (pc := 12) dX7_settleLast_12 kc_bipush_6 ?_
    refine r_icmp_ge (pc := 14) (tgt := 35) dX7_settleLast_14 rfl (fun c => ?_) (fun c => ?_)
    · have h := it h c
      refine r_goto (pc := 35) (tgt := 70) dX7_settleLast_35 rfl ?_
      cases h
      exact r_vret dX7_settleLast_70
    · have h := ie h c
      refine r_aload_n (pc := 17) dX7_settleLast_17 rfl 0 rfl ?_
      obtain ⟨g13, h⟩ := gd h
      obtain ⟨a14, ha14, h⟩ := ob h
      refine r_getS (pc := 18) dX7_settleLast_18 fgX7_44 rfl g13 ha14 ?_
      refine r_iload_n (pc := 21) dX7_settleLast_21 rfl 2 rfl ?_
      refine r_aload_n (pc := 22) dX7_settleLast_22 rfl 1 rfl ?_
      obtain ⟨a15, ha15, h⟩ := ob h
      refine r_ref0 ha15 ?_
      obtain ⟨g16, h⟩ := gd h
      obtain ⟨a17, ha17, h⟩ := ob h
      refine r_getS (pc := 23) dX7_settleLast_23 fgX7_288 rfl g16 ha17 ?_
      refine r_iload_n (pc := 26) dX7_settleLast_26 rfl 2 rfl ?_
      obtain ⟨g18, h⟩ := gd h
      obtain ⟨g19, h⟩ := gd h
      refine r_iaload (pc := 27) dX7_settleLast_27 g18 g19 ?_
      obtain ⟨g20, h⟩ := gd h
      obtain ⟨g21, h⟩ := gd h
      refine r_iastore (pc := 28) dX7_settleLast_28 g20 g21 ?_
      refine r_iinc (pc := 29) (v := (x2 + (1 : Int32))) (L' := [(2, vI (x2 + (1 : Int32))), (0, vR (some t)), (1, vR x1)]) dX7_settleLast_29 2 rfl (kc_inc_1 _) (by decide) rfl ?_
      refine r_goto (pc := 32) (tgt := 11) dX7_settleLast_32 rfl ?_
      refine r_sub [1, 2, 0] rfl ?_
      exact ih _ _ _ h
def fX7_settleLast (σ : Shp) (I : Nat → Nat → Int32) (R : Nat → Nat → Option Nat) (t : Nat) (x1 : Option Nat) : Option ((Nat → Nat → Int32)) :=
  if kdx σ t = 8 then
  ((R t 5) : Option Nat).bind fun a2 =>
  if kdx σ a2 = 20 then
  if ¬ ((0 : Int32) < 0 ∨ lnx σ a2 ≤ Int32.toNatClampNeg (0 : Int32)) then
  if (I a2 (Int32.toNatClampNeg (0 : Int32))) = 0 then
    fX7_settleLast_l11 σ R t FUx I x1 (0 : Int32)
  else
    if (I a2 (Int32.toNatClampNeg (0 : Int32))) = (1 : Int32) then
      (x1 : Option Nat).bind fun a5 =>
      if kdx σ a5 = 4 then
      ((R a5 12) : Option Nat).bind fun a7 =>
      if kdx σ a7 = 20 then
      if ¬ ((0 : Int32) < 0 ∨ lnx σ a7 ≤ Int32.toNatClampNeg (0 : Int32)) then
      if (I a7 (Int32.toNatClampNeg (0 : Int32))) = (1 : Int32) then
        if ¬ ((1 : Int32) < 0 ∨ lnx σ a7 ≤ Int32.toNatClampNeg (1 : Int32)) then
        if ¬ ((4 : Int32) < 0 ∨ lnx σ a2 ≤ Int32.toNatClampNeg (4 : Int32)) then
        let I12 := u2 I a2 (Int32.toNatClampNeg (4 : Int32)) (I a7 (Int32.toNatClampNeg (1 : Int32)))
        some I12
        else none
        else none
      else
        some I
      else none
      else none
      else none
    else
      some I
  else none
  else none
  else none
theorem kX7_settleLast {G : Gx} {l : Launch} {σ : Shp} {I : Nat → Nat → Int32} {J : Nat → Nat → Int64} {D : Nat → Nat → UInt64} {R : Nat → Nat → Option Nat} {t : Nat} {x1 : Option Nat} {I9 : Nat → Nat → Int32} (h : fX7_settleLast σ I R t x1 = some I9) : Con G l yX7_settleLast cX7_settleLast 3 none 0 0 [vR (some t), vR x1] (σ, I, J, D, R) (σ, I9, J, D, R) none := by
  unfold fX7_settleLast at h
  refine Con.mk (by decide +kernel) rfl (Nat.le_of_ble_eq_true rfl) ?_
  show WX7_settleLast G l σ (σ, I9, J, D, R) none (σ, I, J, D, R) 0 _ []
  refine r_aload_n (pc := 0) dX7_settleLast_0 rfl 0 rfl ?_
  obtain ⟨g1, h⟩ := gd h
  obtain ⟨a2, ha2, h⟩ := ob h
  refine r_getS (pc := 1) dX7_settleLast_1 fgX7_44 rfl g1 ha2 ?_
  refine r_iconst (pc := 4) dX7_settleLast_4 kc_iconst_0 ?_
  obtain ⟨g3, h⟩ := gd h
  obtain ⟨g4, h⟩ := gd h
  refine r_iaload (pc := 5) dX7_settleLast_5 g3 g4 ?_
  refine r_ifne (pc := 6) (tgt := 38) dX7_settleLast_6 rfl (fun c => ?_) (fun c => ?_)
  · have h := ie h c
    refine r_aload_n (pc := 38) dX7_settleLast_38 rfl 0 rfl ?_
    refine r_getS (pc := 39) dX7_settleLast_39 fgX7_44 rfl g1 ha2 ?_
    refine r_iconst (pc := 42) dX7_settleLast_42 kc_iconst_0 ?_
    refine r_iaload (pc := 43) dX7_settleLast_43 g3 g4 ?_
    refine r_iconst (pc := 44) dX7_settleLast_44 kc_iconst_1 ?_
    refine r_icmp_ne (pc := 45) (tgt := 70) dX7_settleLast_45 rfl (fun c => ?_) (fun c => ?_)
    · have h := ie h c
      cases h
      exact r_vret dX7_settleLast_70
    · have h := it h c
      refine r_aload_n (pc := 48) dX7_settleLast_48 rfl 1 rfl ?_
      obtain ⟨a5, ha5, h⟩ := ob h
      refine r_ref0 ha5 ?_
      obtain ⟨g6, h⟩ := gd h
      obtain ⟨a7, ha7, h⟩ := ob h
      refine r_getS (pc := 49) dX7_settleLast_49 fgX7_288 rfl g6 ha7 ?_
      refine r_iconst (pc := 52) dX7_settleLast_52 kc_iconst_0 ?_
      obtain ⟨g8, h⟩ := gd h
      obtain ⟨g9, h⟩ := gd h
      refine r_iaload (pc := 53) dX7_settleLast_53 g8 g9 ?_
      refine r_iconst (pc := 54) dX7_settleLast_54 kc_iconst_1 ?_
      refine r_icmp_ne (pc := 55) (tgt := 70) dX7_settleLast_55 rfl (fun c => ?_) (fun c => ?_)
      · have h := ie h c
        cases h
        exact r_vret dX7_settleLast_70
      · have h := it h c
        refine r_aload_n (pc := 58) dX7_settleLast_58 rfl 0 rfl ?_
        refine r_getS (pc := 59) dX7_settleLast_59 fgX7_44 rfl g1 ha2 ?_
        refine r_iconst (pc := 62) dX7_settleLast_62 kc_iconst_4 ?_
        refine r_aload_n (pc := 63) dX7_settleLast_63 rfl 1 rfl ?_
        refine r_ref0 ha5 ?_
        refine r_getS (pc := 64) dX7_settleLast_64 fgX7_288 rfl g6 ha7 ?_
        refine r_iconst (pc := 67) dX7_settleLast_67 kc_iconst_1 ?_
        obtain ⟨g10, h⟩ := gd h
        refine r_iaload (pc := 68) dX7_settleLast_68 g8 g10 ?_
        obtain ⟨g11, h⟩ := gd h
        refine r_iastore (pc := 69) dX7_settleLast_69 g3 g11 ?_
        cases h
        exact r_vret dX7_settleLast_70
  · have h := it h c
    refine r_iconst (pc := 9) dX7_settleLast_9 kc_iconst_0 ?_
    refine r_istore_n (pc := 10) (L' := [(2, vI (0 : Int32)), (0, vR (some t)), (1, vR x1)]) dX7_settleLast_10 rfl (by decide) rfl ?_
    refine r_sub [1, 2, 0] rfl ?_
    exact wX7_settleLast_l11 _ _ _ _ h
abbrev WX7_goesOnTrying (G : Gx) (l : Launch) (σ0 : Shp) (X1 : Stt) (rv : Option SV) : Stt → Nat → List (Nat × SV) → List SV → Prop := Wm G l yX7_goesOnTrying cX7_goesOnTrying 2 (some .boolean) (fun _ => True) (rmx 4 91 σ0 X1.1) σ0 (Qmx G σ0 X1 rv)
def fX7_goesOnTrying_b54  (σ : Shp) (R : Nat → Nat → Option Nat) (t : Nat) (I : Nat → Nat → Int32) (x1 : Option Nat) : Option ((Nat → Nat → Int32) × (Int32)) :=
  (x1 : Option Nat).bind fun a7 =>
  if kdx σ a7 = 4 then
  if (I a7 8) = (1 : Int32) then
    if kdx σ t = 8 then
    ((R t 5) : Option Nat).bind fun a15 =>
    if kdx σ a15 = 20 then
    if ¬ ((0 : Int32) < 0 ∨ lnx σ a15 ≤ Int32.toNatClampNeg (0 : Int32)) then
    if (I a15 (Int32.toNatClampNeg (0 : Int32))) = (1 : Int32) then
      if ¬ ((4 : Int32) < 0 ∨ lnx σ a15 ≤ Int32.toNatClampNeg (4 : Int32)) then
      let I23 := u2 I a15 (Int32.toNatClampNeg (4 : Int32)) (I a7 11)
      (fX7_entersLast σ I23 R t (some a7)).bind fun (I24, r25) =>
      if r25 = 0 ∨ r25 = 1 then
      some (I24, r25)
      else none
      else none
    else
      (fX7_entersLast σ I R t (some a7)).bind fun (I18, r19) =>
      if r19 = 0 ∨ r19 = 1 then
      some (I18, r19)
      else none
    else none
    else none
    else none
  else
    if kdx σ t = 8 then
    (fX7_entersLast σ I R t (some a7)).bind fun (I10, r11) =>
    if r11 = 0 ∨ r11 = 1 then
    some (I10, r11)
    else none
    else none
  else none
theorem wX7_goesOnTrying_b54 {G : Gx} {l : Launch} {σ : Shp} {I : Nat → Nat → Int32} {J : Nat → Nat → Int64} {D : Nat → Nat → UInt64} {R : Nat → Nat → Option Nat} {t : Nat} {I9 : Nat → Nat → Int32} {r9 : Int32} {x1 : Option Nat} (h : fX7_goesOnTrying_b54 σ R t I x1 = some (I9, r9)) : WX7_goesOnTrying G l σ (σ, I9, J, D, R) (some (vI r9)) (σ, I, J, D, R) 54 [(0, vR (some t)), (1, vR x1)] [] := by
  unfold fX7_goesOnTrying_b54 at h
  refine r_aload_n (pc := 54) dX7_goesOnTrying_54 rfl 1 rfl ?_
  obtain ⟨a7, ha7, h⟩ := ob h
  refine r_ref0 ha7 ?_
  obtain ⟨g8, h⟩ := gd h
  refine r_getI (pc := 55) dX7_goesOnTrying_55 fgX7_114 rfl g8 ?_
  refine r_iconst (pc := 58) dX7_goesOnTrying_58 kc_iconst_1 ?_
  refine r_icmp_ne (pc := 59) (tgt := 82) dX7_goesOnTrying_59 rfl (fun c => ?_) (fun c => ?_)
  · have h := ie h c
    refine r_aload_n (pc := 82) dX7_goesOnTrying_82 rfl 0 rfl ?_
    refine r_aload_n (pc := 83) dX7_goesOnTrying_83 rfl 1 rfl ?_
    refine r_ref0 ha7 ?_
    obtain ⟨g9, h⟩ := gd h
    obtain ⟨⟨I10, r11⟩, hc12, h⟩ := ob h
    refine r_callV1 (pc := 84) (av := [vR (some a7)]) (S := []) dX7_goesOnTrying_84 (kX7_entersLast hc12) g9 rfl mkX7_281 mwX7_entersLast rfl ⟨Nat.le_of_ble_eq_true rfl, Nat.le_of_ble_eq_true rfl⟩ (Nat.le_of_ble_eq_true rfl) ⟨Nat.le_refl _, Nat.le_refl _⟩ (fun b => b) ?_
    obtain ⟨g13, h⟩ := gd h
    cases h
    exact r_zret dX7_goesOnTrying_87 g13
  · have h := it h c
    refine r_aload_n (pc := 62) dX7_goesOnTrying_62 rfl 0 rfl ?_
    obtain ⟨g14, h⟩ := gd h
    obtain ⟨a15, ha15, h⟩ := ob h
    refine r_getS (pc := 63) dX7_goesOnTrying_63 fgX7_44 rfl g14 ha15 ?_
    refine r_iconst (pc := 66) dX7_goesOnTrying_66 kc_iconst_0 ?_
    obtain ⟨g16, h⟩ := gd h
    obtain ⟨g17, h⟩ := gd h
    refine r_iaload (pc := 67) dX7_goesOnTrying_67 g16 g17 ?_
    refine r_iconst (pc := 68) dX7_goesOnTrying_68 kc_iconst_1 ?_
    refine r_icmp_ne (pc := 69) (tgt := 82) dX7_goesOnTrying_69 rfl (fun c => ?_) (fun c => ?_)
    · have h := ie h c
      refine r_aload_n (pc := 82) dX7_goesOnTrying_82 rfl 0 rfl ?_
      refine r_aload_n (pc := 83) dX7_goesOnTrying_83 rfl 1 rfl ?_
      refine r_ref0 ha7 ?_
      obtain ⟨⟨I18, r19⟩, hc20, h⟩ := ob h
      refine r_callV1 (pc := 84) (av := [vR (some a7)]) (S := []) dX7_goesOnTrying_84 (kX7_entersLast hc20) g14 rfl mkX7_281 mwX7_entersLast rfl ⟨Nat.le_of_ble_eq_true rfl, Nat.le_of_ble_eq_true rfl⟩ (Nat.le_of_ble_eq_true rfl) ⟨Nat.le_refl _, Nat.le_refl _⟩ (fun b => b) ?_
      obtain ⟨g21, h⟩ := gd h
      cases h
      exact r_zret dX7_goesOnTrying_87 g21
    · have h := it h c
      refine r_aload_n (pc := 72) dX7_goesOnTrying_72 rfl 0 rfl ?_
      refine r_getS (pc := 73) dX7_goesOnTrying_73 fgX7_44 rfl g14 ha15 ?_
      refine r_iconst (pc := 76) dX7_goesOnTrying_76 kc_iconst_4 ?_
      refine r_aload_n (pc := 77) dX7_goesOnTrying_77 rfl 1 rfl ?_
      refine r_ref0 ha7 ?_
      refine r_getI (pc := 78) dX7_goesOnTrying_78 fgX7_120 rfl g8 ?_
      obtain ⟨g22, h⟩ := gd h
      refine r_iastore (pc := 81) dX7_goesOnTrying_81 g16 g22 ?_
      refine r_aload_n (pc := 82) dX7_goesOnTrying_82 rfl 0 rfl ?_
      refine r_aload_n (pc := 83) dX7_goesOnTrying_83 rfl 1 rfl ?_
      refine r_ref0 ha7 ?_
      obtain ⟨⟨I24, r25⟩, hc26, h⟩ := ob h
      refine r_callV1 (pc := 84) (av := [vR (some a7)]) (S := []) dX7_goesOnTrying_84 (kX7_entersLast hc26) g14 rfl mkX7_281 mwX7_entersLast rfl ⟨Nat.le_of_ble_eq_true rfl, Nat.le_of_ble_eq_true rfl⟩ (Nat.le_of_ble_eq_true rfl) ⟨Nat.le_refl _, Nat.le_refl _⟩ (fun b => b) ?_
      obtain ⟨g27, h⟩ := gd h
      cases h
      exact r_zret dX7_goesOnTrying_87 g27
def fX7_goesOnTrying (σ : Shp) (I : Nat → Nat → Int32) (R : Nat → Nat → Option Nat) (t : Nat) (x1 : Option Nat) : Option ((Nat → Nat → Int32) × (Int32)) :=
  if kdx σ t = 8 then
  ((R t 5) : Option Nat).bind fun a2 =>
  if kdx σ a2 = 20 then
  if ¬ ((0 : Int32) < 0 ∨ lnx σ a2 ≤ Int32.toNatClampNeg (0 : Int32)) then
  if (I a2 (Int32.toNatClampNeg (0 : Int32))) = (3 : Int32) then
    some (I, (0 : Int32))
  else
    (x1 : Option Nat).bind fun a5 =>
    if kdx σ a5 = 4 then
    if (I a5 8) = (2 : Int32) then
      (fX7_settleLast σ I R t (some a5)).bind fun I31 =>
      some (I31, (0 : Int32))
    else
      if (I a5 8) = 0 then
        if (I a2 (Int32.toNatClampNeg (0 : Int32))) = (1 : Int32) then
          (fX7_meets σ I R t (some a5)).bind fun (I28, r29) =>
          if r29 = 0 then
            fX7_goesOnTrying_b54 σ R t I28 x1
          else
            some (I28, (1 : Int32))
        else
          fX7_goesOnTrying_b54 σ R t I x1
      else
        fX7_goesOnTrying_b54 σ R t I x1
    else none
  else none
  else none
  else none
theorem kX7_goesOnTrying {G : Gx} {l : Launch} {σ : Shp} {I : Nat → Nat → Int32} {J : Nat → Nat → Int64} {D : Nat → Nat → UInt64} {R : Nat → Nat → Option Nat} {t : Nat} {x1 : Option Nat} {I9 : Nat → Nat → Int32} {r9 : Int32} (h : fX7_goesOnTrying σ I R t x1 = some (I9, r9)) : Con G l yX7_goesOnTrying cX7_goesOnTrying 2 (some .boolean) 4 91 [vR (some t), vR x1] (σ, I, J, D, R) (σ, I9, J, D, R) (some (vI r9)) := by
  unfold fX7_goesOnTrying at h
  refine Con.mk (by decide +kernel) rfl (Nat.le_of_ble_eq_true rfl) ?_
  show WX7_goesOnTrying G l σ (σ, I9, J, D, R) (some (vI r9)) (σ, I, J, D, R) 0 _ []
  refine r_aload_n (pc := 0) dX7_goesOnTrying_0 rfl 0 rfl ?_
  obtain ⟨g1, h⟩ := gd h
  obtain ⟨a2, ha2, h⟩ := ob h
  refine r_getS (pc := 1) dX7_goesOnTrying_1 fgX7_44 rfl g1 ha2 ?_
  refine r_iconst (pc := 4) dX7_goesOnTrying_4 kc_iconst_0 ?_
  obtain ⟨g3, h⟩ := gd h
  obtain ⟨g4, h⟩ := gd h
  refine r_iaload (pc := 5) dX7_goesOnTrying_5 g3 g4 ?_
  refine r_iconst (pc := 6) dX7_goesOnTrying_6 kc_iconst_3 ?_
  refine r_icmp_ne (pc := 7) (tgt := 12) dX7_goesOnTrying_7 rfl (fun c => ?_) (fun c => ?_)
  · have h := ie h c
    refine r_aload_n (pc := 12) dX7_goesOnTrying_12 rfl 1 rfl ?_
    obtain ⟨a5, ha5, h⟩ := ob h
    refine r_ref0 ha5 ?_
    obtain ⟨g6, h⟩ := gd h
    refine r_getI (pc := 13) dX7_goesOnTrying_13 fgX7_114 rfl g6 ?_
    refine r_iconst (pc := 16) dX7_goesOnTrying_16 kc_iconst_2 ?_
    refine r_icmp_ne (pc := 17) (tgt := 27) dX7_goesOnTrying_17 rfl (fun c => ?_) (fun c => ?_)
    · have h := ie h c
      refine r_aload_n (pc := 27) dX7_goesOnTrying_27 rfl 1 rfl ?_
      refine r_ref0 ha5 ?_
      refine r_getI (pc := 28) dX7_goesOnTrying_28 fgX7_114 rfl g6 ?_
      refine r_ifne (pc := 31) (tgt := 54) dX7_goesOnTrying_31 rfl (fun c => ?_) (fun c => ?_)
      · have h := ie h c
        refine r_sub [0, 1] rfl ?_
        exact wX7_goesOnTrying_b54 h
      · have h := it h c
        refine r_aload_n (pc := 34) dX7_goesOnTrying_34 rfl 0 rfl ?_
        refine r_getS (pc := 35) dX7_goesOnTrying_35 fgX7_44 rfl g1 ha2 ?_
        refine r_iconst (pc := 38) dX7_goesOnTrying_38 kc_iconst_0 ?_
        refine r_iaload (pc := 39) dX7_goesOnTrying_39 g3 g4 ?_
        refine r_iconst (pc := 40) dX7_goesOnTrying_40 kc_iconst_1 ?_
        refine r_icmp_ne (pc := 41) (tgt := 54) dX7_goesOnTrying_41 rfl (fun c => ?_) (fun c => ?_)
        · have h := ie h c
          refine r_sub [0, 1] rfl ?_
          exact wX7_goesOnTrying_b54 h
        · have h := it h c
          refine r_aload_n (pc := 44) dX7_goesOnTrying_44 rfl 0 rfl ?_
          refine r_aload_n (pc := 45) dX7_goesOnTrying_45 rfl 1 rfl ?_
          refine r_ref0 ha5 ?_
          obtain ⟨⟨I28, r29⟩, hc30, h⟩ := ob h
          refine r_callV1 (pc := 46) (av := [vR (some a5)]) (S := []) dX7_goesOnTrying_46 (kX7_meets hc30) g1 rfl mkX7_278 mwX7_meets rfl ⟨Nat.le_of_ble_eq_true rfl, Nat.le_of_ble_eq_true rfl⟩ (Nat.le_of_ble_eq_true rfl) ⟨Nat.le_refl _, Nat.le_refl _⟩ (fun b => b) ?_
          refine r_if_eq (pc := 49) (tgt := 54) dX7_goesOnTrying_49 rfl (fun c => ?_) (fun c => ?_)
          · have h := it h c
            refine r_sub [0, 1] rfl ?_
            exact wX7_goesOnTrying_b54 h
          · have h := ie h c
            refine r_iconst (pc := 52) dX7_goesOnTrying_52 kc_iconst_1 ?_
            cases h
            exact r_zret dX7_goesOnTrying_53 (Or.inr rfl)
    · have h := it h c
      refine r_aload_n (pc := 20) dX7_goesOnTrying_20 rfl 0 rfl ?_
      refine r_aload_n (pc := 21) dX7_goesOnTrying_21 rfl 1 rfl ?_
      refine r_ref0 ha5 ?_
      obtain ⟨I31, hc32, h⟩ := ob h
      refine r_callV0 (pc := 22) (av := [vR (some a5)]) (S := []) dX7_goesOnTrying_22 (kX7_settleLast hc32) g1 rfl mkX7_275 mwX7_settleLast rfl ⟨Nat.le_of_ble_eq_true rfl, Nat.le_of_ble_eq_true rfl⟩ (Nat.le_of_ble_eq_true rfl) ⟨Nat.le_refl _, Nat.le_refl _⟩ (fun b => b) ?_
      refine r_iconst (pc := 25) dX7_goesOnTrying_25 kc_iconst_0 ?_
      cases h
      exact r_zret dX7_goesOnTrying_26 (Or.inl rfl)
  · have h := it h c
    refine r_iconst (pc := 10) dX7_goesOnTrying_10 kc_iconst_0 ?_
    cases h
    exact r_zret dX7_goesOnTrying_11 (Or.inl rfl)
abbrev WX7_top (G : Gx) (l : Launch) (σ0 : Shp) (X1 : Stt) (rv : Option SV) : Stt → Nat → List (Nat × SV) → List SV → Prop := Wm G l yX7_top cX7_top 1 (some (.object "GlassHouse$Frame")) (fun _ => True) (rmx 0 0 σ0 X1.1) σ0 (Qmx G σ0 X1 rv)
def fX7_top (σ : Shp) (I : Nat → Nat → Int32) (R : Nat → Nat → Option Nat) (t : Nat)  : Option ((Option Nat)) :=
  if kdx σ t = 8 then
  if (I t 6) ≤ 0 then
    some none
  else
    if (160 : Int32) < (I t 6) then
      some none
    else
      ((R t 4) : Option Nat).bind fun a2 =>
      if kdx σ a2 = 27 then
      if ¬ (((I t 6) - (1 : Int32)) < 0 ∨ lnx σ a2 ≤ Int32.toNatClampNeg ((I t 6) - (1 : Int32))) then
      some (R a2 (Int32.toNatClampNeg ((I t 6) - (1 : Int32))))
      else none
      else none
  else none
theorem kX7_top {G : Gx} {l : Launch} {σ : Shp} {I : Nat → Nat → Int32} {J : Nat → Nat → Int64} {D : Nat → Nat → UInt64} {R : Nat → Nat → Option Nat} {t : Nat}  {r9 : Option Nat} (h : fX7_top σ I R t = some r9) : Con G l yX7_top cX7_top 1 (some (.object "GlassHouse$Frame")) 0 0 [vR (some t)] (σ, I, J, D, R) (σ, I, J, D, R) (some (vR r9)) := by
  unfold fX7_top at h
  refine Con.mk (by decide +kernel) rfl (Nat.le_of_ble_eq_true rfl) ?_
  show WX7_top G l σ (σ, I, J, D, R) (some (vR r9)) (σ, I, J, D, R) 0 _ []
  refine r_aload_n (pc := 0) dX7_top_0 rfl 0 rfl ?_
  obtain ⟨g1, h⟩ := gd h
  refine r_getI (pc := 1) dX7_top_1 fgX7_70 rfl g1 ?_
  refine r_if_le (pc := 4) (tgt := 31) dX7_top_4 rfl (fun c => ?_) (fun c => ?_)
  · have h := it h c
    refine r_null (pc := 31) dX7_top_31 ?_
    cases h
    exact r_aret (Or.inl ⟨_, rfl⟩) dX7_top_32
  · have h := ie h c
    refine r_aload_n (pc := 7) dX7_top_7 rfl 0 rfl ?_
    refine r_getI (pc := 8) dX7_top_8 fgX7_70 rfl g1 ?_
    refine r_sipush (pc := 11) dX7_top_11 kc_sipush_160 ?_
    refine r_icmp_gt (pc := 14) (tgt := 31) dX7_top_14 rfl (fun c => ?_) (fun c => ?_)
    · have h := it h c
      refine r_null (pc := 31) dX7_top_31 ?_
      cases h
      exact r_aret (Or.inl ⟨_, rfl⟩) dX7_top_32
    · have h := ie h c
      refine r_aload_n (pc := 17) dX7_top_17 rfl 0 rfl ?_
      obtain ⟨a2, ha2, h⟩ := ob h
      refine r_getS (pc := 18) dX7_top_18 fgX7_40 rfl g1 ha2 ?_
      refine r_aload_n (pc := 21) dX7_top_21 rfl 0 rfl ?_
      refine r_getI (pc := 22) dX7_top_22 fgX7_70 rfl g1 ?_
      refine r_iconst (pc := 25) dX7_top_25 kc_iconst_1 ?_
      refine r_isub (pc := 26) dX7_top_26 ?_
      obtain ⟨g3, h⟩ := gd h
      obtain ⟨g4, h⟩ := gd h
      refine r_aaload (pc := 27) dX7_top_27 g3 (by decide) g4 ?_
      refine r_goto (pc := 28) (tgt := 32) dX7_top_28 rfl ?_
      cases h
      exact r_aret (Or.inl ⟨_, rfl⟩) dX7_top_32
abbrev WX7_lookAgain (G : Gx) (l : Launch) (σ0 : Shp) (X1 : Stt) (rv : Option SV) : Stt → Nat → List (Nat × SV) → List SV → Prop := Wm G l yX7_lookAgain cX7_lookAgain 3 none (fun _ => True) (rmx 1 20 σ0 X1.1) σ0 (Qmx G σ0 X1 rv)
def fX7_lookAgain (σ : Shp) (I : Nat → Nat → Int32) (R : Nat → Nat → Option Nat) (t : Nat) (x1 : Int32) : Option ((Nat → Nat → Int32)) :=
  if kdx σ t = 8 then
  (fX7_top σ I R t).bind fun r2 =>
  onl r2
    (
      some I)
    (fun a4 =>
      if kdx σ a4 = 4 then
      let I6 := u2 I a4 3 x1
      some I6
      else none)
  else none
theorem kX7_lookAgain {G : Gx} {l : Launch} {σ : Shp} {I : Nat → Nat → Int32} {J : Nat → Nat → Int64} {D : Nat → Nat → UInt64} {R : Nat → Nat → Option Nat} {t : Nat} {x1 : Int32} {I9 : Nat → Nat → Int32} (h : fX7_lookAgain σ I R t x1 = some I9) : Con G l yX7_lookAgain cX7_lookAgain 3 none 1 20 [vR (some t), vI x1] (σ, I, J, D, R) (σ, I9, J, D, R) none := by
  unfold fX7_lookAgain at h
  refine Con.mk (by decide +kernel) rfl (Nat.le_of_ble_eq_true rfl) ?_
  show WX7_lookAgain G l σ (σ, I9, J, D, R) none (σ, I, J, D, R) 0 _ []
  refine r_aload_n (pc := 0) dX7_lookAgain_0 rfl 0 rfl ?_
  obtain ⟨g1, h⟩ := gd h
  obtain ⟨r2, hc3, h⟩ := ob h
  refine r_callV1 (pc := 1) (av := []) (S := []) dX7_lookAgain_1 (kX7_top hc3) g1 rfl mkX7_78 mwX7_top rfl ⟨Nat.le_of_ble_eq_true rfl, Nat.le_of_ble_eq_true rfl⟩ (Nat.le_of_ble_eq_true rfl) ⟨Nat.le_refl _, Nat.le_refl _⟩ (fun b => b) ?_
  refine r_astore_n (pc := 4) (L' := [(2, vR r2), (0, vR (some t)), (1, vI x1)]) dX7_lookAgain_4 rfl (by decide) rfl ?_
  refine r_aload_n (pc := 5) dX7_lookAgain_5 rfl 0 rfl ?_
  rcases onl_c h with ⟨ea4, h⟩ | ⟨a4, ha4, h⟩
  · refine r_ref0n ea4 ?_
    refine r_ifnull_n (pc := 6) (tgt := 14) dX7_lookAgain_6 rfl ?_
    cases h
    exact r_vret dX7_lookAgain_14
  · refine r_ref0 ha4 ?_
    refine r_ifnull_s (pc := 6) dX7_lookAgain_6 ?_
    refine r_aload_n (pc := 9) dX7_lookAgain_9 rfl 0 rfl ?_
    refine r_ref0 ha4 ?_
    refine r_iload_n (pc := 10) dX7_lookAgain_10 rfl 2 rfl ?_
    obtain ⟨g5, h⟩ := gd h
    refine r_putI (pc := 11) dX7_lookAgain_11 fwX7_82 rfl g5 ?_
    cases h
    exact r_vret dX7_lookAgain_14
abbrev WX8_noteChange (G : Gx) (l : Launch) (σ0 : Shp) (X1 : Stt) (rv : Option SV) : Stt → Nat → List (Nat × SV) → List SV → Prop := Wm G l yX8_noteChange cX8_noteChange 5 none (fun _ => True) (rmx 0 0 σ0 X1.1) σ0 (Qmx G σ0 X1 rv)
def fX8_noteChange (σ : Shp) (I : Nat → Nat → Int32) (J : Nat → Nat → Int64) (R : Nat → Nat → Option Nat) (t : Nat) (x1 : Option Nat) (x2 : Int32) (x3 : Int64) : Option ((Nat → Nat → Int32) × (Nat → Nat → Int64) × (Nat → Nat → Option Nat)) :=
  if kdx σ t = 9 then
  if (640 : Int32) ≤ (I t 6) then
    some (I, J, R)
  else
    ((R t 3) : Option Nat).bind fun a2 =>
    if kdx σ a2 = 26 then
    if ¬ ((I t 6) < 0 ∨ lnx σ a2 ≤ Int32.toNatClampNeg (I t 6)) then
    if okR σ 11 x1 = true then
    let R6 := u2 R a2 (Int32.toNatClampNeg (I t 6)) x1
    ((R6 t 4) : Option Nat).bind fun a7 =>
    if kdx σ a7 = 20 then
    if ¬ ((I t 6) < 0 ∨ lnx σ a7 ≤ Int32.toNatClampNeg (I t 6)) then
    let I10 := u2 I a7 (Int32.toNatClampNeg (I t 6)) x2
    ((R6 t 5) : Option Nat).bind fun a11 =>
    if kdx σ a11 = 21 then
    if ¬ ((I10 t 6) < 0 ∨ lnx σ a11 ≤ Int32.toNatClampNeg (I10 t 6)) then
    let J14 := u2 J a11 (Int32.toNatClampNeg (I10 t 6)) x3
    let I15 := u2 I10 t 6 ((I10 t 6) + (1 : Int32))
    some (I15, J14, R6)
    else none
    else none
    else none
    else none
    else none
    else none
    else none
  else none
theorem kX8_noteChange {G : Gx} {l : Launch} {σ : Shp} {I : Nat → Nat → Int32} {J : Nat → Nat → Int64} {D : Nat → Nat → UInt64} {R : Nat → Nat → Option Nat} {t : Nat} {x1 : Option Nat} {x2 : Int32} {x3 : Int64} {I9 : Nat → Nat → Int32} {J9 : Nat → Nat → Int64} {R9 : Nat → Nat → Option Nat} (h : fX8_noteChange σ I J R t x1 x2 x3 = some (I9, J9, R9)) : Con G l yX8_noteChange cX8_noteChange 5 none 0 0 [vR (some t), vR x1, vI x2, vL x3] (σ, I, J, D, R) (σ, I9, J9, D, R9) none := by
  unfold fX8_noteChange at h
  refine Con.mk (by decide +kernel) rfl (Nat.le_of_ble_eq_true rfl) ?_
  show WX8_noteChange G l σ (σ, I9, J9, D, R9) none (σ, I, J, D, R) 0 _ []
  refine r_aload_n (pc := 0) dX8_noteChange_0 rfl 0 rfl ?_
  obtain ⟨g1, h⟩ := gd h
  refine r_getI (pc := 1) dX8_noteChange_1 fgX8_32 rfl g1 ?_
  refine r_sipush (pc := 4) dX8_noteChange_4 kc_sipush_640 ?_
  refine r_icmp_ge (pc := 7) (tgt := 50) dX8_noteChange_7 rfl (fun c => ?_) (fun c => ?_)
  · have h := it h c
    cases h
    exact r_vret dX8_noteChange_50
  · have h := ie h c
    refine r_aload_n (pc := 10) dX8_noteChange_10 rfl 0 rfl ?_
    obtain ⟨a2, ha2, h⟩ := ob h
    refine r_getS (pc := 11) dX8_noteChange_11 fgX8_22 rfl g1 ha2 ?_
    refine r_aload_n (pc := 14) dX8_noteChange_14 rfl 0 rfl ?_
    refine r_getI (pc := 15) dX8_noteChange_15 fgX8_32 rfl g1 ?_
    refine r_aload_n (pc := 18) dX8_noteChange_18 rfl 1 rfl ?_
    obtain ⟨g3, h⟩ := gd h
    obtain ⟨g4, h⟩ := gd h
    obtain ⟨g5, h⟩ := gd h
    refine r_aastore (c := 10) (pc := 19) dX8_noteChange_19 g3 (by decide) g4 g5 ?_
    refine r_aload_n (pc := 20) dX8_noteChange_20 rfl 0 rfl ?_
    obtain ⟨a7, ha7, h⟩ := ob h
    refine r_getS (pc := 21) dX8_noteChange_21 fgX8_26 rfl g1 ha7 ?_
    refine r_aload_n (pc := 24) dX8_noteChange_24 rfl 0 rfl ?_
    refine r_getI (pc := 25) dX8_noteChange_25 fgX8_32 rfl g1 ?_
    refine r_iload_n (pc := 28) dX8_noteChange_28 rfl 2 rfl ?_
    obtain ⟨g8, h⟩ := gd h
    obtain ⟨g9, h⟩ := gd h
    refine r_iastore (pc := 29) dX8_noteChange_29 g8 g9 ?_
    refine r_aload_n (pc := 30) dX8_noteChange_30 rfl 0 rfl ?_
    obtain ⟨a11, ha11, h⟩ := ob h
    refine r_getS (pc := 31) dX8_noteChange_31 fgX8_29 rfl g1 ha11 ?_
    refine r_aload_n (pc := 34) dX8_noteChange_34 rfl 0 rfl ?_
    refine r_getI (pc := 35) dX8_noteChange_35 fgX8_32 rfl g1 ?_
    refine r_lload_n (pc := 38) dX8_noteChange_38 rfl 3 rfl ?_
    obtain ⟨g12, h⟩ := gd h
    obtain ⟨g13, h⟩ := gd h
    refine r_lastore (pc := 39) dX8_noteChange_39 g12 g13 ?_
    refine r_aload_n (pc := 40) dX8_noteChange_40 rfl 0 rfl ?_
    refine r_dup (pc := 41) dX8_noteChange_41 rfl ?_
    refine r_getI (pc := 42) dX8_noteChange_42 fgX8_32 rfl g1 ?_
    refine r_iconst (pc := 45) dX8_noteChange_45 kc_iconst_1 ?_
    refine r_iadd (pc := 46) dX8_noteChange_46 ?_
    refine r_putI (pc := 47) dX8_noteChange_47 fwX8_32 rfl g1 ?_
    cases h
    exact r_vret dX8_noteChange_50
abbrev WX8_changeStock (G : Gx) (l : Launch) (σ0 : Shp) (X1 : Stt) (rv : Option SV) : Stt → Nat → List (Nat × SV) → List SV → Prop := Wm G l yX8_changeStock cX8_changeStock 4 none (fun _ => True) (rmx 1 24 σ0 X1.1) σ0 (Qmx G σ0 X1 rv)
def fX8_changeStock (σ : Shp) (I : Nat → Nat → Int32) (J : Nat → Nat → Int64) (R : Nat → Nat → Option Nat) (t : Nat) (x1 : Int32) (x2 : Int64) : Option ((Nat → Nat → Int32) × (Nat → Nat → Int64) × (Nat → Nat → Option Nat)) :=
  if x1 < 0 then
    some (I, J, R)
  else
    if x1 < (6 : Int32) then
      if kdx σ t = 9 then
      ((R t 0) : Option Nat).bind fun a2 =>
      if kdx σ a2 = 21 then
      if ¬ (x1 < 0 ∨ lnx σ a2 ≤ Int32.toNatClampNeg x1) then
      (fX8_noteChange σ I J R t none x1 (J a2 (Int32.toNatClampNeg x1))).bind fun (I5, J6, R7) =>
      ((R7 t 0) : Option Nat).bind fun a9 =>
      if kdx σ a9 = 21 then
      if ¬ (x1 < 0 ∨ lnx σ a9 ≤ Int32.toNatClampNeg x1) then
      let J12 := u2 J6 a9 (Int32.toNatClampNeg x1) x2
      some (I5, J12, R7)
      else none
      else none
      else none
      else none
      else none
    else
      some (I, J, R)
theorem kX8_changeStock {G : Gx} {l : Launch} {σ : Shp} {I : Nat → Nat → Int32} {J : Nat → Nat → Int64} {D : Nat → Nat → UInt64} {R : Nat → Nat → Option Nat} {t : Nat} {x1 : Int32} {x2 : Int64} {I9 : Nat → Nat → Int32} {J9 : Nat → Nat → Int64} {R9 : Nat → Nat → Option Nat} (h : fX8_changeStock σ I J R t x1 x2 = some (I9, J9, R9)) : Con G l yX8_changeStock cX8_changeStock 4 none 1 24 [vR (some t), vI x1, vL x2] (σ, I, J, D, R) (σ, I9, J9, D, R9) none := by
  unfold fX8_changeStock at h
  refine Con.mk (by decide +kernel) rfl (Nat.le_of_ble_eq_true rfl) ?_
  show WX8_changeStock G l σ (σ, I9, J9, D, R9) none (σ, I, J, D, R) 0 _ []
  refine r_iload_n (pc := 0) dX8_changeStock_0 rfl 1 rfl ?_
  refine r_if_lt (pc := 1) (tgt := 10) dX8_changeStock_1 rfl (fun c => ?_) (fun c => ?_)
  · have h := it h c
    cases h
    exact r_vret dX8_changeStock_10
  · have h := ie h c
    refine r_iload_n (pc := 4) dX8_changeStock_4 rfl 1 rfl ?_
    refine r_bipush (pc := 5) dX8_changeStock_5 kc_bipush_6 ?_
    refine r_icmp_lt (pc := 7) (tgt := 11) dX8_changeStock_7 rfl (fun c => ?_) (fun c => ?_)
    · have h := it h c
      refine r_aload_n (pc := 11) dX8_changeStock_11 rfl 0 rfl ?_
      refine r_null (pc := 12) dX8_changeStock_12 ?_
      refine r_iload_n (pc := 13) dX8_changeStock_13 rfl 1 rfl ?_
      refine r_aload_n (pc := 14) dX8_changeStock_14 rfl 0 rfl ?_
      obtain ⟨g1, h⟩ := gd h
      obtain ⟨a2, ha2, h⟩ := ob h
      refine r_getS (pc := 15) dX8_changeStock_15 fgX8_9 rfl g1 ha2 ?_
      refine r_iload_n (pc := 18) dX8_changeStock_18 rfl 1 rfl ?_
      obtain ⟨g3, h⟩ := gd h
      obtain ⟨g4, h⟩ := gd h
      refine r_laload (pc := 19) dX8_changeStock_19 g3 g4 ?_
      obtain ⟨⟨I5, J6, R7⟩, hc8, h⟩ := ob h
      refine r_callV0 (pc := 20) (av := [vR none, vI x1, vL (J a2 (Int32.toNatClampNeg x1))]) (S := []) dX8_changeStock_20 (kX8_noteChange hc8) g1 rfl mkX8_36 mwX8_noteChange rfl ⟨Nat.le_of_ble_eq_true rfl, Nat.le_of_ble_eq_true rfl⟩ (Nat.le_of_ble_eq_true rfl) ⟨Nat.le_refl _, Nat.le_refl _⟩ (fun b => b) ?_
      refine r_aload_n (pc := 23) dX8_changeStock_23 rfl 0 rfl ?_
      obtain ⟨a9, ha9, h⟩ := ob h
      refine r_getS (pc := 24) dX8_changeStock_24 fgX8_9 rfl g1 ha9 ?_
      refine r_iload_n (pc := 27) dX8_changeStock_27 rfl 1 rfl ?_
      refine r_lload_n (pc := 28) dX8_changeStock_28 rfl 2 rfl ?_
      obtain ⟨g10, h⟩ := gd h
      obtain ⟨g11, h⟩ := gd h
      refine r_lastore (pc := 29) dX8_changeStock_29 g10 g11 ?_
      cases h
      exact r_vret dX8_changeStock_30
    · have h := ie h c
      cases h
      exact r_vret dX8_changeStock_10
abbrev WX7_leave (G : Gx) (l : Launch) (σ0 : Shp) (X1 : Stt) (rv : Option SV) : Stt → Nat → List (Nat × SV) → List SV → Prop := Wm G l yX7_leave cX7_leave 3 none (fun _ => True) (rmx 5 112 σ0 X1.1) σ0 (Qmx G σ0 X1 rv)
def fX7_leave_b169  (σ : Shp) (t : Nat) (I : Nat → Nat → Int32) (J : Nat → Nat → Int64) (R : Nat → Nat → Option Nat) (x1 : Option Nat) : Option ((Nat → Nat → Int32) × (Nat → Nat → Int64) × (Nat → Nat → Option Nat)) :=
  if kdx σ t = 8 then
  let I17 := u2 I t 6 ((I t 6) - (1 : Int32))
  (x1 : Option Nat).bind fun a18 =>
  if kdx σ a18 = 4 then
  if (I17 a18 0) = (20 : Int32) then
    ((R t 5) : Option Nat).bind fun a20 =>
    if kdx σ a20 = 20 then
    if ¬ ((0 : Int32) < 0 ∨ lnx σ a20 ≤ Int32.toNatClampNeg (0 : Int32)) then
    if (I17 a20 (Int32.toNatClampNeg (0 : Int32))) = 0 then
      (fX7_lookAgain σ I17 R t (I17 a18 2)).bind fun I23 =>
      some (I23, J, R)
    else
      some (I17, J, R)
    else none
    else none
  else
    some (I17, J, R)
  else none
  else none
theorem wX7_leave_b169 {G : Gx} {l : Launch} {σ : Shp} {I : Nat → Nat → Int32} {J : Nat → Nat → Int64} {D : Nat → Nat → UInt64} {R : Nat → Nat → Option Nat} {t : Nat} {I9 : Nat → Nat → Int32} {J9 : Nat → Nat → Int64} {R9 : Nat → Nat → Option Nat} {x1 : Option Nat} (h : fX7_leave_b169 σ t I J R x1 = some (I9, J9, R9)) : WX7_leave G l σ (σ, I9, J9, D, R9) none (σ, I, J, D, R) 169 [(0, vR (some t)), (1, vR x1)] [] := by
  unfold fX7_leave_b169 at h
  refine r_aload_n (pc := 169) dX7_leave_169 rfl 0 rfl ?_
  refine r_dup (pc := 170) dX7_leave_170 rfl ?_
  obtain ⟨g16, h⟩ := gd h
  refine r_getI (pc := 171) dX7_leave_171 fgX7_70 rfl g16 ?_
  refine r_iconst (pc := 174) dX7_leave_174 kc_iconst_1 ?_
  refine r_isub (pc := 175) dX7_leave_175 ?_
  refine r_putI (pc := 176) dX7_leave_176 fwX7_70 rfl g16 ?_
  refine r_aload_n (pc := 179) dX7_leave_179 rfl 1 rfl ?_
  obtain ⟨a18, ha18, h⟩ := ob h
  refine r_ref0 ha18 ?_
  obtain ⟨g19, h⟩ := gd h
  refine r_getI (pc := 180) dX7_leave_180 fgX7_133 rfl g19 ?_
  refine r_bipush (pc := 183) dX7_leave_183 kc_bipush_20 ?_
  refine r_icmp_ne (pc := 185) (tgt := 205) dX7_leave_185 rfl (fun c => ?_) (fun c => ?_)
  · have h := ie h c
    cases h
    exact r_vret dX7_leave_205
  · have h := it h c
    refine r_aload_n (pc := 188) dX7_leave_188 rfl 0 rfl ?_
    obtain ⟨a20, ha20, h⟩ := ob h
    refine r_getS (pc := 189) dX7_leave_189 fgX7_44 rfl g16 ha20 ?_
    refine r_iconst (pc := 192) dX7_leave_192 kc_iconst_0 ?_
    obtain ⟨g21, h⟩ := gd h
    obtain ⟨g22, h⟩ := gd h
    refine r_iaload (pc := 193) dX7_leave_193 g21 g22 ?_
    refine r_ifne (pc := 194) (tgt := 205) dX7_leave_194 rfl (fun c => ?_) (fun c => ?_)
    · have h := ie h c
      cases h
      exact r_vret dX7_leave_205
    · have h := it h c
      refine r_aload_n (pc := 197) dX7_leave_197 rfl 0 rfl ?_
      refine r_aload_n (pc := 198) dX7_leave_198 rfl 1 rfl ?_
      refine r_ref0 ha18 ?_
      refine r_getI (pc := 199) dX7_leave_199 fgX7_136 rfl g19 ?_
      obtain ⟨I23, hc24, h⟩ := ob h
      refine r_callV0 (pc := 202) (av := [vI ((u2 I t 6 ((I t 6) - (1 : Int32))) a18 2)]) (S := []) dX7_leave_202 (kX7_lookAgain hc24) g16 rfl mkX7_269 mwX7_lookAgain rfl ⟨Nat.le_of_ble_eq_true rfl, Nat.le_of_ble_eq_true rfl⟩ (Nat.le_of_ble_eq_true rfl) ⟨Nat.le_refl _, Nat.le_refl _⟩ (fun b => b) ?_
      cases h
      exact r_vret dX7_leave_205
def fX7_leave (σ : Shp) (I : Nat → Nat → Int32) (J : Nat → Nat → Int64) (R : Nat → Nat → Option Nat) (t : Nat) (x1 : Option Nat) : Option ((Nat → Nat → Int32) × (Nat → Nat → Int64) × (Nat → Nat → Option Nat)) :=
  (x1 : Option Nat).bind fun a1 =>
  if kdx σ a1 = 4 then
  let v3 := (I a1 5)
  if (I a1 0) = (10 : Int32) then
    if kdx σ t = 8 then
    let I67 := u2 I t 8 ((I t 8) - (1 : Int32))
    fX7_leave_b169 σ t I67 J R x1
    else none
  else
  if (I a1 0) = (11 : Int32) then
    if kdx σ t = 8 then
    ((R t 3) : Option Nat).bind fun a60 =>
    if kdx σ a60 = 9 then
    ((R a60 2) : Option Nat).bind fun a62 =>
    if kdx σ a62 = 20 then
    if ¬ (v3 < 0 ∨ lnx σ a62 ≤ Int32.toNatClampNeg v3) then
    let I65 := u2 I a62 (Int32.toNatClampNeg v3) ((I a62 (Int32.toNatClampNeg v3)) - (1 : Int32))
    fX7_leave_b169 σ t I65 J R x1
    else none
    else none
    else none
    else none
  else
  if (I a1 0) = (12 : Int32) then
    if kdx σ t = 8 then
    ((R t 3) : Option Nat).bind fun a50 =>
    if kdx σ a50 = 9 then
    ((R a50 0) : Option Nat).bind fun a52 =>
    if kdx σ a52 = 21 then
    if ¬ (v3 < 0 ∨ lnx σ a52 ≤ Int32.toNatClampNeg v3) then
    (fX8_changeStock σ I J R a50 v3 ((J a52 (Int32.toNatClampNeg v3)) + (Int32.toInt64 (I a1 6)))).bind fun (I55, J56, R57) =>
    fX7_leave_b169 σ t I55 J56 R57 x1
    else none
    else none
    else none
    else none
  else
  if (I a1 0) = (13 : Int32) then
    if kdx σ t = 8 then
    ((R t 3) : Option Nat).bind fun a43 =>
    if kdx σ a43 = 9 then
    ((R a43 1) : Option Nat).bind fun a45 =>
    if kdx σ a45 = 20 then
    if ¬ (v3 < 0 ∨ lnx σ a45 ≤ Int32.toNatClampNeg v3) then
    let I48 := u2 I a45 (Int32.toNatClampNeg v3) (I a1 7)
    fX7_leave_b169 σ t I48 J R x1
    else none
    else none
    else none
    else none
  else
  if (I a1 0) = (14 : Int32) then
    if kdx σ t = 8 then
    (fX7_undoFaulted σ I J R t (some a1)).bind fun (I39, J40) =>
    fX7_leave_b169 σ t I39 J40 R x1
    else none
  else
  if (I a1 0) = (15 : Int32) then
    if kdx σ t = 8 then
    (fX7_goesAgain σ I J R t (some a1)).bind fun (I34, J35, r36) =>
    if r36 = 0 then
      fX7_leave_b169 σ t I34 J35 R x1
    else
      some (I34, J35, R)
    else none
  else
  if (I a1 0) = (16 : Int32) then
    if kdx σ t = 8 then
    (fX7_goesOnTrying σ I R t (some a1)).bind fun (I30, r31) =>
    if r31 = 0 then
      fX7_leave_b169 σ t I30 J R x1
    else
      some (I30, J, R)
    else none
  else
  if (I a1 0) = (17 : Int32) then
    fX7_leave_b169 σ t I J R x1
  else
  if (I a1 0) = (18 : Int32) then
    fX7_leave_b169 σ t I J R x1
  else
  if (I a1 0) = (19 : Int32) then
    fX7_leave_b169 σ t I J R x1
  else
  if (I a1 0) = (20 : Int32) then
    fX7_leave_b169 σ t I J R x1
  else
  if (I a1 0) = (21 : Int32) then
    if kdx σ t = 8 then
    (fX7_undoFaulted σ I J R t (some a1)).bind fun (I26, J27) =>
    fX7_leave_b169 σ t I26 J27 R x1
    else none
  else
  fX7_leave_b169 σ t I J R x1
  else none
theorem kX7_leave {G : Gx} {l : Launch} {σ : Shp} {I : Nat → Nat → Int32} {J : Nat → Nat → Int64} {D : Nat → Nat → UInt64} {R : Nat → Nat → Option Nat} {t : Nat} {x1 : Option Nat} {I9 : Nat → Nat → Int32} {J9 : Nat → Nat → Int64} {R9 : Nat → Nat → Option Nat} (h : fX7_leave σ I J R t x1 = some (I9, J9, R9)) : Con G l yX7_leave cX7_leave 3 none 5 112 [vR (some t), vR x1] (σ, I, J, D, R) (σ, I9, J9, D, R9) none := by
  unfold fX7_leave at h
  refine Con.mk (by decide +kernel) rfl (Nat.le_of_ble_eq_true rfl) ?_
  show WX7_leave G l σ (σ, I9, J9, D, R9) none (σ, I, J, D, R) 0 _ []
  refine r_aload_n (pc := 0) dX7_leave_0 rfl 1 rfl ?_
  obtain ⟨a1, ha1, h⟩ := ob h
  refine r_ref0 ha1 ?_
  obtain ⟨g2, h⟩ := gd h
  refine r_getI (pc := 1) dX7_leave_1 fgX7_146 rfl g2 ?_
  refine r_istore_n (pc := 4) (L' := [(2, vI (I a1 5)), (0, vR (some t)), (1, vR x1)]) dX7_leave_4 rfl (by decide) rfl ?_
  refine r_aload_n (pc := 5) dX7_leave_5 rfl 2 rfl ?_
  refine r_ref0 ha1 ?_
  refine r_getI (pc := 6) dX7_leave_6 fgX7_133 rfl g2 ?_
  rcases itc h with ⟨c4, h⟩ | ⟨c4, h⟩
  · refine r_tsIn (x := (I a1 0)) (pc := 9) (tgt := 80) dX7_leave_9 (by rw [c4]; decide) (by rw [c4]; decide) (by rw [c4]; rfl) rfl ?_
    refine r_aload_n (pc := 80) dX7_leave_80 rfl 1 rfl ?_
    refine r_dup (pc := 81) dX7_leave_81 rfl ?_
    obtain ⟨g66, h⟩ := gd h
    refine r_getI (pc := 82) dX7_leave_82 fgX7_51 rfl g66 ?_
    refine r_iconst (pc := 85) dX7_leave_85 kc_iconst_1 ?_
    refine r_isub (pc := 86) dX7_leave_86 ?_
    refine r_putI (pc := 87) dX7_leave_87 fwX7_51 rfl g66 ?_
    refine r_goto (pc := 90) (tgt := 169) dX7_leave_90 rfl ?_
    refine r_sub [1, 2] rfl ?_
    exact wX7_leave_b169 h
  · rcases itc h with ⟨c5, h⟩ | ⟨c5, h⟩
    · refine r_tsIn (x := (I a1 0)) (pc := 9) (tgt := 93) dX7_leave_9 (by rw [c5]; decide) (by rw [c5]; decide) (by rw [c5]; rfl) rfl ?_
      refine r_aload_n (pc := 93) dX7_leave_93 rfl 1 rfl ?_
      obtain ⟨g59, h⟩ := gd h
      obtain ⟨a60, ha60, h⟩ := ob h
      refine r_getS (pc := 94) dX7_leave_94 fgX7_34 rfl g59 ha60 ?_
      obtain ⟨g61, h⟩ := gd h
      obtain ⟨a62, ha62, h⟩ := ob h
      refine r_getS (pc := 97) dX7_leave_97 fgX7_208 rfl g61 ha62 ?_
      refine r_iload_n (pc := 100) dX7_leave_100 rfl 0 rfl ?_
      refine r_dup2 (pc := 101) dX7_leave_101 rfl rfl ?_
      obtain ⟨g63, h⟩ := gd h
      obtain ⟨g64, h⟩ := gd h
      refine r_iaload (pc := 102) dX7_leave_102 g63 g64 ?_
      refine r_iconst (pc := 103) dX7_leave_103 kc_iconst_1 ?_
      refine r_isub (pc := 104) dX7_leave_104 ?_
      refine r_iastore (pc := 105) dX7_leave_105 g63 g64 ?_
      refine r_goto (pc := 106) (tgt := 169) dX7_leave_106 rfl ?_
      refine r_sub [1, 2] rfl ?_
      exact wX7_leave_b169 h
    · rcases itc h with ⟨c6, h⟩ | ⟨c6, h⟩
      · refine r_tsIn (x := (I a1 0)) (pc := 9) (tgt := 109) dX7_leave_9 (by rw [c6]; decide) (by rw [c6]; decide) (by rw [c6]; rfl) rfl ?_
        refine r_aload_n (pc := 109) dX7_leave_109 rfl 1 rfl ?_
        obtain ⟨g49, h⟩ := gd h
        obtain ⟨a50, ha50, h⟩ := ob h
        refine r_getS (pc := 110) dX7_leave_110 fgX7_34 rfl g49 ha50 ?_
        refine r_iload_n (pc := 113) dX7_leave_113 rfl 0 rfl ?_
        refine r_aload_n (pc := 114) dX7_leave_114 rfl 1 rfl ?_
        refine r_getS (pc := 115) dX7_leave_115 fgX7_34 rfl g49 ha50 ?_
        obtain ⟨g51, h⟩ := gd h
        obtain ⟨a52, ha52, h⟩ := ob h
        refine r_getS (pc := 118) dX7_leave_118 fgX7_185 rfl g51 ha52 ?_
        refine r_iload_n (pc := 121) dX7_leave_121 rfl 0 rfl ?_
        obtain ⟨g53, h⟩ := gd h
        obtain ⟨g54, h⟩ := gd h
        refine r_laload (pc := 122) dX7_leave_122 g53 g54 ?_
        refine r_aload_n (pc := 123) dX7_leave_123 rfl 2 rfl ?_
        refine r_ref0 ha1 ?_
        refine r_getI (pc := 124) dX7_leave_124 fgX7_152 rfl g2 ?_
        refine r_i2l (pc := 127) dX7_leave_127 ?_
        refine r_ladd (pc := 128) dX7_leave_128 ?_
        obtain ⟨⟨I55, J56, R57⟩, hc58, h⟩ := ob h
        refine r_callV0 (pc := 129) (av := [vI (I a1 5), vL ((J a52 (Int32.toNatClampNeg (I a1 5))) + (Int32.toInt64 (I a1 6)))]) (S := []) dX7_leave_129 (kX8_changeStock hc58) g51 rfl mkX7_189 mwX8_changeStock rfl ⟨Nat.le_of_ble_eq_true rfl, Nat.le_of_ble_eq_true rfl⟩ (Nat.le_of_ble_eq_true rfl) ⟨Nat.le_refl _, Nat.le_refl _⟩ (fun b => b) ?_
        refine r_goto (pc := 132) (tgt := 169) dX7_leave_132 rfl ?_
        refine r_sub [1, 2] rfl ?_
        exact wX7_leave_b169 h
      · rcases itc h with ⟨c7, h⟩ | ⟨c7, h⟩
        · refine r_tsIn (x := (I a1 0)) (pc := 9) (tgt := 135) dX7_leave_9 (by rw [c7]; decide) (by rw [c7]; decide) (by rw [c7]; rfl) rfl ?_
          refine r_aload_n (pc := 135) dX7_leave_135 rfl 1 rfl ?_
          obtain ⟨g42, h⟩ := gd h
          obtain ⟨a43, ha43, h⟩ := ob h
          refine r_getS (pc := 136) dX7_leave_136 fgX7_34 rfl g42 ha43 ?_
          obtain ⟨g44, h⟩ := gd h
          obtain ⟨a45, ha45, h⟩ := ob h
          refine r_getS (pc := 139) dX7_leave_139 fgX7_257 rfl g44 ha45 ?_
          refine r_iload_n (pc := 142) dX7_leave_142 rfl 0 rfl ?_
          refine r_aload_n (pc := 143) dX7_leave_143 rfl 2 rfl ?_
          refine r_ref0 ha1 ?_
          refine r_getI (pc := 144) dX7_leave_144 fgX7_158 rfl g2 ?_
          obtain ⟨g46, h⟩ := gd h
          obtain ⟨g47, h⟩ := gd h
          refine r_iastore (pc := 147) dX7_leave_147 g46 g47 ?_
          refine r_goto (pc := 148) (tgt := 169) dX7_leave_148 rfl ?_
          refine r_sub [1, 2] rfl ?_
          exact wX7_leave_b169 h
        · rcases itc h with ⟨c8, h⟩ | ⟨c8, h⟩
          · refine r_tsIn (x := (I a1 0)) (pc := 9) (tgt := 72) dX7_leave_9 (by rw [c8]; decide) (by rw [c8]; decide) (by rw [c8]; rfl) rfl ?_
            refine r_aload_n (pc := 72) dX7_leave_72 rfl 1 rfl ?_
            refine r_aload_n (pc := 73) dX7_leave_73 rfl 2 rfl ?_
            refine r_ref0 ha1 ?_
            obtain ⟨g38, h⟩ := gd h
            obtain ⟨⟨I39, J40⟩, hc41, h⟩ := ob h
            refine r_callV0 (pc := 74) (av := [vR (some a1)]) (S := []) dX7_leave_74 (kX7_undoFaulted hc41) g38 rfl mkX7_260 mwX7_undoFaulted rfl ⟨Nat.le_of_ble_eq_true rfl, Nat.le_of_ble_eq_true rfl⟩ (Nat.le_of_ble_eq_true rfl) ⟨Nat.le_refl _, Nat.le_refl _⟩ (fun b => b) ?_
            refine r_goto (pc := 77) (tgt := 169) dX7_leave_77 rfl ?_
            refine r_sub [1, 2] rfl ?_
            exact wX7_leave_b169 h
          · rcases itc h with ⟨c9, h⟩ | ⟨c9, h⟩
            · refine r_tsIn (x := (I a1 0)) (pc := 9) (tgt := 151) dX7_leave_9 (by rw [c9]; decide) (by rw [c9]; decide) (by rw [c9]; rfl) rfl ?_
              refine r_aload_n (pc := 151) dX7_leave_151 rfl 1 rfl ?_
              refine r_aload_n (pc := 152) dX7_leave_152 rfl 2 rfl ?_
              refine r_ref0 ha1 ?_
              obtain ⟨g33, h⟩ := gd h
              obtain ⟨⟨I34, J35, r36⟩, hc37, h⟩ := ob h
              refine r_callV1 (pc := 153) (av := [vR (some a1)]) (S := []) dX7_leave_153 (kX7_goesAgain hc37) g33 rfl mkX7_263 mwX7_goesAgain rfl ⟨Nat.le_of_ble_eq_true rfl, Nat.le_of_ble_eq_true rfl⟩ (Nat.le_of_ble_eq_true rfl) ⟨Nat.le_refl _, Nat.le_refl _⟩ (fun b => b) ?_
              refine r_if_eq (pc := 156) (tgt := 169) dX7_leave_156 rfl (fun c => ?_) (fun c => ?_)
              · have h := it h c
                refine r_sub [1, 2] rfl ?_
                exact wX7_leave_b169 h
              · have h := ie h c
                cases h
                exact r_vret dX7_leave_159
            · rcases itc h with ⟨c10, h⟩ | ⟨c10, h⟩
              · refine r_tsIn (x := (I a1 0)) (pc := 9) (tgt := 160) dX7_leave_9 (by rw [c10]; decide) (by rw [c10]; decide) (by rw [c10]; rfl) rfl ?_
                refine r_aload_n (pc := 160) dX7_leave_160 rfl 1 rfl ?_
                refine r_aload_n (pc := 161) dX7_leave_161 rfl 2 rfl ?_
                refine r_ref0 ha1 ?_
                obtain ⟨g29, h⟩ := gd h
                obtain ⟨⟨I30, r31⟩, hc32, h⟩ := ob h
                refine r_callV1 (pc := 162) (av := [vR (some a1)]) (S := []) dX7_leave_162 (kX7_goesOnTrying hc32) g29 rfl mkX7_266 mwX7_goesOnTrying rfl ⟨Nat.le_of_ble_eq_true rfl, Nat.le_of_ble_eq_true rfl⟩ (Nat.le_of_ble_eq_true rfl) ⟨Nat.le_refl _, Nat.le_refl _⟩ (fun b => b) ?_
                refine r_if_eq (pc := 165) (tgt := 169) dX7_leave_165 rfl (fun c => ?_) (fun c => ?_)
                · have h := it h c
                  refine r_sub [1, 2] rfl ?_
                  exact wX7_leave_b169 h
                · have h := ie h c
                  cases h
                  exact r_vret dX7_leave_168
              · rcases itc h with ⟨c11, h⟩ | ⟨c11, h⟩
                · refine r_tsIn (x := (I a1 0)) (pc := 9) (tgt := 169) dX7_leave_9 (by rw [c11]; decide) (by rw [c11]; decide) (by rw [c11]; rfl) rfl ?_
                  refine r_sub [1, 2] rfl ?_
                  exact wX7_leave_b169 h
                · rcases itc h with ⟨c12, h⟩ | ⟨c12, h⟩
                  · refine r_tsIn (x := (I a1 0)) (pc := 9) (tgt := 169) dX7_leave_9 (by rw [c12]; decide) (by rw [c12]; decide) (by rw [c12]; rfl) rfl ?_
                    refine r_sub [1, 2] rfl ?_
                    exact wX7_leave_b169 h
                  · rcases itc h with ⟨c13, h⟩ | ⟨c13, h⟩
                    · refine r_tsIn (x := (I a1 0)) (pc := 9) (tgt := 169) dX7_leave_9 (by rw [c13]; decide) (by rw [c13]; decide) (by rw [c13]; rfl) rfl ?_
                      refine r_sub [1, 2] rfl ?_
                      exact wX7_leave_b169 h
                    · rcases itc h with ⟨c14, h⟩ | ⟨c14, h⟩
                      · refine r_tsIn (x := (I a1 0)) (pc := 9) (tgt := 169) dX7_leave_9 (by rw [c14]; decide) (by rw [c14]; decide) (by rw [c14]; rfl) rfl ?_
                        refine r_sub [1, 2] rfl ?_
                        exact wX7_leave_b169 h
                      · rcases itc h with ⟨c15, h⟩ | ⟨c15, h⟩
                        · refine r_tsIn (x := (I a1 0)) (pc := 9) (tgt := 72) dX7_leave_9 (by rw [c15]; decide) (by rw [c15]; decide) (by rw [c15]; rfl) rfl ?_
                          refine r_aload_n (pc := 72) dX7_leave_72 rfl 1 rfl ?_
                          refine r_aload_n (pc := 73) dX7_leave_73 rfl 2 rfl ?_
                          refine r_ref0 ha1 ?_
                          obtain ⟨g25, h⟩ := gd h
                          obtain ⟨⟨I26, J27⟩, hc28, h⟩ := ob h
                          refine r_callV0 (pc := 74) (av := [vR (some a1)]) (S := []) dX7_leave_74 (kX7_undoFaulted hc28) g25 rfl mkX7_260 mwX7_undoFaulted rfl ⟨Nat.le_of_ble_eq_true rfl, Nat.le_of_ble_eq_true rfl⟩ (Nat.le_of_ble_eq_true rfl) ⟨Nat.le_refl _, Nat.le_refl _⟩ (fun b => b) ?_
                          refine r_goto (pc := 77) (tgt := 169) dX7_leave_77 rfl ?_
                          refine r_sub [1, 2] rfl ?_
                          exact wX7_leave_b169 h
                        · refine r_tsOut (x := (I a1 0)) (pc := 9) (tgt := 169) dX7_leave_9 (by have ec4 := i32n c4 (k := 10) rfl; have ec5 := i32n c5 (k := 11) rfl; have ec6 := i32n c6 (k := 12) rfl; have ec7 := i32n c7 (k := 13) rfl; have ec8 := i32n c8 (k := 14) rfl; have ec9 := i32n c9 (k := 15) rfl; have ec10 := i32n c10 (k := 16) rfl; have ec11 := i32n c11 (k := 17) rfl; have ec12 := i32n c12 (k := 18) rfl; have ec13 := i32n c13 (k := 19) rfl; have ec14 := i32n c14 (k := 20) rfl; have ec15 := i32n c15 (k := 21) rfl; omega) rfl ?_
                          refine r_sub [1, 2] rfl ?_
                          exact wX7_leave_b169 h
abbrev WX7_arise (G : Gx) (l : Launch) (σ0 : Shp) (X1 : Stt) (rv : Option SV) : Stt → Nat → List (Nat × SV) → List SV → Prop := Wm G l yX7_arise cX7_arise 3 none (fun _ => True) (rmx 0 0 σ0 X1.1) σ0 (Qmx G σ0 X1 rv)
def fX7_arise (σ : Shp) (I : Nat → Nat → Int32) (R : Nat → Nat → Option Nat) (t : Nat) (x1 : Int32) (x2 : Int32) : Option ((Nat → Nat → Int32)) :=
  if kdx σ t = 8 then
  let I2 := u2 I t 13 ((I t 13) + (1 : Int32))
  ((R t 5) : Option Nat).bind fun a3 =>
  if kdx σ a3 = 20 then
  if ¬ ((0 : Int32) < 0 ∨ lnx σ a3 ≤ Int32.toNatClampNeg (0 : Int32)) then
  let I6 := u2 I2 a3 (Int32.toNatClampNeg (0 : Int32)) (1 : Int32)
  if ¬ ((1 : Int32) < 0 ∨ lnx σ a3 ≤ Int32.toNatClampNeg (1 : Int32)) then
  let I8 := u2 I6 a3 (Int32.toNatClampNeg (1 : Int32)) x1
  if ¬ ((2 : Int32) < 0 ∨ lnx σ a3 ≤ Int32.toNatClampNeg (2 : Int32)) then
  let I10 := u2 I8 a3 (Int32.toNatClampNeg (2 : Int32)) x2
  if ¬ ((3 : Int32) < 0 ∨ lnx σ a3 ≤ Int32.toNatClampNeg (3 : Int32)) then
  let I12 := u2 I10 a3 (Int32.toNatClampNeg (3 : Int32)) (I10 t 7)
  if ¬ ((4 : Int32) < 0 ∨ lnx σ a3 ≤ Int32.toNatClampNeg (4 : Int32)) then
  let I14 := u2 I12 a3 (Int32.toNatClampNeg (4 : Int32)) (0 : Int32)
  some I14
  else none
  else none
  else none
  else none
  else none
  else none
  else none
theorem kX7_arise {G : Gx} {l : Launch} {σ : Shp} {I : Nat → Nat → Int32} {J : Nat → Nat → Int64} {D : Nat → Nat → UInt64} {R : Nat → Nat → Option Nat} {t : Nat} {x1 : Int32} {x2 : Int32} {I9 : Nat → Nat → Int32} (h : fX7_arise σ I R t x1 x2 = some I9) : Con G l yX7_arise cX7_arise 3 none 0 0 [vR (some t), vI x1, vI x2] (σ, I, J, D, R) (σ, I9, J, D, R) none := by
  unfold fX7_arise at h
  refine Con.mk (by decide +kernel) rfl (Nat.le_of_ble_eq_true rfl) ?_
  show WX7_arise G l σ (σ, I9, J, D, R) none (σ, I, J, D, R) 0 _ []
  refine r_aload_n (pc := 0) dX7_arise_0 rfl 0 rfl ?_
  refine r_dup (pc := 1) dX7_arise_1 rfl ?_
  obtain ⟨g1, h⟩ := gd h
  refine r_getI (pc := 2) dX7_arise_2 fgX7_67 rfl g1 ?_
  refine r_iconst (pc := 5) dX7_arise_5 kc_iconst_1 ?_
  refine r_iadd (pc := 6) dX7_arise_6 ?_
  refine r_putI (pc := 7) dX7_arise_7 fwX7_67 rfl g1 ?_
  refine r_aload_n (pc := 10) dX7_arise_10 rfl 0 rfl ?_
  obtain ⟨a3, ha3, h⟩ := ob h
  refine r_getS (pc := 11) dX7_arise_11 fgX7_44 rfl g1 ha3 ?_
  refine r_iconst (pc := 14) dX7_arise_14 kc_iconst_0 ?_
  refine r_iconst (pc := 15) dX7_arise_15 kc_iconst_1 ?_
  obtain ⟨g4, h⟩ := gd h
  obtain ⟨g5, h⟩ := gd h
  refine r_iastore (pc := 16) dX7_arise_16 g4 g5 ?_
  refine r_aload_n (pc := 17) dX7_arise_17 rfl 0 rfl ?_
  refine r_getS (pc := 18) dX7_arise_18 fgX7_44 rfl g1 ha3 ?_
  refine r_iconst (pc := 21) dX7_arise_21 kc_iconst_1 ?_
  refine r_iload_n (pc := 22) dX7_arise_22 rfl 1 rfl ?_
  obtain ⟨g7, h⟩ := gd h
  refine r_iastore (pc := 23) dX7_arise_23 g4 g7 ?_
  refine r_aload_n (pc := 24) dX7_arise_24 rfl 0 rfl ?_
  refine r_getS (pc := 25) dX7_arise_25 fgX7_44 rfl g1 ha3 ?_
  refine r_iconst (pc := 28) dX7_arise_28 kc_iconst_2 ?_
  refine r_iload_n (pc := 29) dX7_arise_29 rfl 2 rfl ?_
  obtain ⟨g9, h⟩ := gd h
  refine r_iastore (pc := 30) dX7_arise_30 g4 g9 ?_
  refine r_aload_n (pc := 31) dX7_arise_31 rfl 0 rfl ?_
  refine r_getS (pc := 32) dX7_arise_32 fgX7_44 rfl g1 ha3 ?_
  refine r_iconst (pc := 35) dX7_arise_35 kc_iconst_3 ?_
  refine r_aload_n (pc := 36) dX7_arise_36 rfl 0 rfl ?_
  refine r_getI (pc := 37) dX7_arise_37 fgX7_99 rfl g1 ?_
  obtain ⟨g11, h⟩ := gd h
  refine r_iastore (pc := 40) dX7_arise_40 g4 g11 ?_
  refine r_aload_n (pc := 41) dX7_arise_41 rfl 0 rfl ?_
  refine r_getS (pc := 42) dX7_arise_42 fgX7_44 rfl g1 ha3 ?_
  refine r_iconst (pc := 45) dX7_arise_45 kc_iconst_4 ?_
  refine r_iconst (pc := 46) dX7_arise_46 kc_iconst_0 ?_
  obtain ⟨g13, h⟩ := gd h
  refine r_iastore (pc := 47) dX7_arise_47 g4 g13 ?_
  cases h
  exact r_vret dX7_arise_48
abbrev WX11_isStock (G : Gx) (l : Launch) (σ0 : Shp) (X1 : Stt) (rv : Option SV) : Stt → Nat → List (Nat × SV) → List SV → Prop := Wm G l yX11_isStock cX11_isStock 1 (some .boolean) (fun _ => True) (rmx 0 0 σ0 X1.1) σ0 (Qmx G σ0 X1 rv)
def fX11_isStock  (x0 : Int32) : (Int32) :=
  if x0 < 0 then
    (0 : Int32)
  else
    if (6 : Int32) ≤ x0 then
      (0 : Int32)
    else
      (1 : Int32)
theorem zX11_isStock  (x0 : Int32) : fX11_isStock x0 = 0 ∨ fX11_isStock x0 = 1 := by
  unfold fX11_isStock
  repeat' (first | refine itz ?_ ?_ | exact Or.inl rfl | exact Or.inr rfl)
theorem kX11_isStock {G : Gx} {l : Launch} {σ : Shp} {I : Nat → Nat → Int32} {J : Nat → Nat → Int64} {D : Nat → Nat → UInt64} {R : Nat → Nat → Option Nat} {x0 : Int32} {r9 : Int32} (h : fX11_isStock x0 = r9) : Con G l yX11_isStock cX11_isStock 1 (some .boolean) 0 0 [vI x0] (σ, I, J, D, R) (σ, I, J, D, R) (some (vI r9)) := by
  unfold fX11_isStock at h
  refine Con.mk (by decide +kernel) rfl (Nat.le_of_ble_eq_true rfl) ?_
  show WX11_isStock G l σ (σ, I, J, D, R) (some (vI r9)) (σ, I, J, D, R) 0 _ []
  refine r_iload_n (pc := 0) dX11_isStock_0 rfl 0 rfl ?_
  refine r_if_lt (pc := 1) (tgt := 14) dX11_isStock_1 rfl (fun c => ?_) (fun c => ?_)
  · have h := it h c
    refine r_iconst (pc := 14) dX11_isStock_14 kc_iconst_0 ?_
    subst h
    exact r_zret dX11_isStock_15 (Or.inl rfl)
  · have h := ie h c
    refine r_iload_n (pc := 4) dX11_isStock_4 rfl 0 rfl ?_
    refine r_bipush (pc := 5) dX11_isStock_5 kc_bipush_6 ?_
    refine r_icmp_ge (pc := 7) (tgt := 14) dX11_isStock_7 rfl (fun c => ?_) (fun c => ?_)
    · have h := it h c
      refine r_iconst (pc := 14) dX11_isStock_14 kc_iconst_0 ?_
      subst h
      exact r_zret dX11_isStock_15 (Or.inl rfl)
    · have h := ie h c
      refine r_iconst (pc := 10) dX11_isStock_10 kc_iconst_1 ?_
      refine r_goto (pc := 11) (tgt := 15) dX11_isStock_11 rfl ?_
      subst h
      exact r_zret dX11_isStock_15 (Or.inr rfl)
abbrev WX7_askPlant (G : Gx) (l : Launch) (σ0 : Shp) (X1 : Stt) (rv : Option SV) : Stt → Nat → List (Nat × SV) → List SV → Prop := Wm G l yX7_askPlant cX7_askPlant 5 none (fun _ => True) (rmx 12 283 σ0 X1.1) σ0 (Qmx G σ0 X1 rv)
def fX7_askPlant (σ : Shp) (I : Nat → Nat → Int32) (J : Nat → Nat → Int64) (R : Nat → Nat → Option Nat) (t : Nat) (x1 : Int32) (x2 : Int32) (x3 : Int32) : Option ((Nat → Nat → Int32) × (Nat → Nat → Int64) × (Nat → Nat → Option Nat)) :=
  if x2 < 0 then
    if kdx σ t = 8 then
    (fX7_arise σ I R t (2 : Int32) (0 : Int32)).bind fun I2 =>
    some (I2, J, R)
    else none
  else
    if (3 : Int32) < x2 then
      if kdx σ t = 8 then
      (fX7_arise σ I R t (2 : Int32) (0 : Int32)).bind fun I5 =>
      some (I5, J, R)
      else none
    else
      if (fX11_isStock x3) = 0 then
        if kdx σ t = 8 then
        (fX7_arise σ I R t (2 : Int32) (0 : Int32)).bind fun I27 =>
        some (I27, J, R)
        else none
      else
        if kdx σ t = 8 then
        ((R t 1) : Option Nat).bind fun a8 =>
        if kdx σ a8 = 1 then
        (fX0_beginAsk σ I a8).bind fun I10 =>
        ((R t 0) : Option Nat).bind fun a12 =>
        if kdx σ a12 = 26 then
        if ¬ (x1 < 0 ∨ lnx σ a12 ≤ Int32.toNatClampNeg x1) then
        (fX0_tell σ I10 R a8 (R a12 (Int32.toNatClampNeg x1)) x2).bind fun (I15, r16) =>
        if (I15 a8 2) = 0 then
          ((R t 3) : Option Nat).bind fun a18 =>
          if kdx σ a18 = 9 then
          (fX8_changeStock σ I15 J R a18 x3 (Int32.toInt64 r16)).bind fun (I20, J21, R22) =>
          some (I20, J21, R22)
          else none
        else
          (fX7_arise σ I15 R t (I15 a8 2) (0 : Int32)).bind fun I24 =>
          some (I24, J, R)
        else none
        else none
        else none
        else none
theorem kX7_askPlant {G : Gx} {l : Launch} {σ : Shp} {I : Nat → Nat → Int32} {J : Nat → Nat → Int64} {D : Nat → Nat → UInt64} {R : Nat → Nat → Option Nat} {t : Nat} {x1 : Int32} {x2 : Int32} {x3 : Int32} {I9 : Nat → Nat → Int32} {J9 : Nat → Nat → Int64} {R9 : Nat → Nat → Option Nat} (h : fX7_askPlant σ I J R t x1 x2 x3 = some (I9, J9, R9)) : Con G l yX7_askPlant cX7_askPlant 5 none 12 283 [vR (some t), vI x1, vI x2, vI x3] (σ, I, J, D, R) (σ, I9, J9, D, R9) none := by
  unfold fX7_askPlant at h
  refine Con.mk (by decide +kernel) rfl (Nat.le_of_ble_eq_true rfl) ?_
  show WX7_askPlant G l σ (σ, I9, J9, D, R9) none (σ, I, J, D, R) 0 _ []
  refine r_iload_n (pc := 0) dX7_askPlant_0 rfl 2 rfl ?_
  refine r_if_lt (pc := 1) (tgt := 16) dX7_askPlant_1 rfl (fun c => ?_) (fun c => ?_)
  · have h := it h c
    refine r_aload_n (pc := 16) dX7_askPlant_16 rfl 0 rfl ?_
    refine r_iconst (pc := 17) dX7_askPlant_17 kc_iconst_2 ?_
    refine r_iconst (pc := 18) dX7_askPlant_18 kc_iconst_0 ?_
    obtain ⟨g1, h⟩ := gd h
    obtain ⟨I2, hc3, h⟩ := ob h
    refine r_callV0 (pc := 19) (av := [vI (2 : Int32), vI (0 : Int32)]) (S := []) dX7_askPlant_19 (kX7_arise hc3) g1 rfl mkX7_182 mwX7_arise rfl ⟨Nat.le_of_ble_eq_true rfl, Nat.le_of_ble_eq_true rfl⟩ (Nat.le_of_ble_eq_true rfl) ⟨Nat.le_refl _, Nat.le_refl _⟩ (fun b => b) ?_
    cases h
    exact r_vret dX7_askPlant_22
  · have h := ie h c
    refine r_iload_n (pc := 4) dX7_askPlant_4 rfl 2 rfl ?_
    refine r_iconst (pc := 5) dX7_askPlant_5 kc_iconst_3 ?_
    refine r_icmp_gt (pc := 6) (tgt := 16) dX7_askPlant_6 rfl (fun c => ?_) (fun c => ?_)
    · have h := it h c
      refine r_aload_n (pc := 16) dX7_askPlant_16 rfl 0 rfl ?_
      refine r_iconst (pc := 17) dX7_askPlant_17 kc_iconst_2 ?_
      refine r_iconst (pc := 18) dX7_askPlant_18 kc_iconst_0 ?_
      obtain ⟨g4, h⟩ := gd h
      obtain ⟨I5, hc6, h⟩ := ob h
      refine r_callV0 (pc := 19) (av := [vI (2 : Int32), vI (0 : Int32)]) (S := []) dX7_askPlant_19 (kX7_arise hc6) g4 rfl mkX7_182 mwX7_arise rfl ⟨Nat.le_of_ble_eq_true rfl, Nat.le_of_ble_eq_true rfl⟩ (Nat.le_of_ble_eq_true rfl) ⟨Nat.le_refl _, Nat.le_refl _⟩ (fun b => b) ?_
      cases h
      exact r_vret dX7_askPlant_22
    · have h := ie h c
      refine r_iload_n (pc := 9) dX7_askPlant_9 rfl 3 rfl ?_
      refine r_callSN1 (pc := 10) (av := [vI x3]) (S := []) dX7_askPlant_10 (kX11_isStock rfl) nkX7_165 mwX11_isStock rfl ⟨Nat.le_of_ble_eq_true rfl, Nat.le_of_ble_eq_true rfl⟩ (Nat.le_of_ble_eq_true rfl) ⟨Nat.le_refl _, Nat.le_refl _⟩ (fun b => b) ?_
      refine r_ifne (pc := 13) (tgt := 23) dX7_askPlant_13 rfl (fun c => ?_) (fun c => ?_)
      · have h := ie h c
        refine r_aload_n (pc := 23) dX7_askPlant_23 rfl 0 rfl ?_
        obtain ⟨g7, h⟩ := gd h
        obtain ⟨a8, ha8, h⟩ := ob h
        refine r_getS (pc := 24) dX7_askPlant_24 fgX7_20 rfl g7 ha8 ?_
        obtain ⟨g9, h⟩ := gd h
        obtain ⟨I10, hc11, h⟩ := ob h
        refine r_callV0 (pc := 27) (av := []) (S := []) dX7_askPlant_27 (kX0_beginAsk hc11) g9 rfl mkX7_234 mwX0_beginAsk rfl ⟨Nat.le_of_ble_eq_true rfl, Nat.le_of_ble_eq_true rfl⟩ (Nat.le_of_ble_eq_true rfl) ⟨Nat.le_refl _, Nat.le_refl _⟩ (fun b => b) ?_
        refine r_aload_n (pc := 30) dX7_askPlant_30 rfl 0 rfl ?_
        refine r_getS (pc := 31) dX7_askPlant_31 fgX7_20 rfl g7 ha8 ?_
        refine r_aload_n (pc := 34) dX7_askPlant_34 rfl 0 rfl ?_
        obtain ⟨a12, ha12, h⟩ := ob h
        refine r_getS (pc := 35) dX7_askPlant_35 fgX7_11 rfl g7 ha12 ?_
        refine r_iload_n (pc := 38) dX7_askPlant_38 rfl 1 rfl ?_
        obtain ⟨g13, h⟩ := gd h
        obtain ⟨g14, h⟩ := gd h
        refine r_aaload (pc := 39) dX7_askPlant_39 g13 (by decide) g14 ?_
        refine r_iload_n (pc := 40) dX7_askPlant_40 rfl 2 rfl ?_
        obtain ⟨⟨I15, r16⟩, hc17, h⟩ := ob h
        refine r_callV1 (pc := 41) (av := [vR (R a12 (Int32.toNatClampNeg x1)), vI x2]) (S := []) dX7_askPlant_41 (kX0_tell hc17) g9 rfl mkX7_237 mwX0_tell rfl ⟨Nat.le_of_ble_eq_true rfl, Nat.le_of_ble_eq_true rfl⟩ (Nat.le_of_ble_eq_true rfl) ⟨Nat.le_refl _, Nat.le_refl _⟩ (fun b => b) ?_
        refine r_istore (pc := 44) (L' := [(4, vI r16), (0, vR (some t)), (1, vI x1), (2, vI x2), (3, vI x3)]) dX7_askPlant_44 (by decide) rfl ?_
        refine r_aload_n (pc := 46) dX7_askPlant_46 rfl 1 rfl ?_
        refine r_getS (pc := 47) dX7_askPlant_47 fgX7_20 rfl g7 ha8 ?_
        refine r_getI (pc := 50) dX7_askPlant_50 fgX7_240 rfl g9 ?_
        refine r_if_eq (pc := 53) (tgt := 71) dX7_askPlant_53 rfl (fun c => ?_) (fun c => ?_)
        · have h := it h c
          refine r_aload_n (pc := 71) dX7_askPlant_71 rfl 1 rfl ?_
          obtain ⟨a18, ha18, h⟩ := ob h
          refine r_getS (pc := 72) dX7_askPlant_72 fgX7_34 rfl g7 ha18 ?_
          refine r_iload_n (pc := 75) dX7_askPlant_75 rfl 4 rfl ?_
          refine r_iload (pc := 76) dX7_askPlant_76 0 rfl ?_
          refine r_i2l (pc := 78) dX7_askPlant_78 ?_
          obtain ⟨g19, h⟩ := gd h
          obtain ⟨⟨I20, J21, R22⟩, hc23, h⟩ := ob h
          refine r_callV0 (pc := 79) (av := [vI x3, vL (Int32.toInt64 r16)]) (S := []) dX7_askPlant_79 (kX8_changeStock hc23) g19 rfl mkX7_189 mwX8_changeStock rfl ⟨Nat.le_of_ble_eq_true rfl, Nat.le_of_ble_eq_true rfl⟩ (Nat.le_of_ble_eq_true rfl) ⟨Nat.le_refl _, Nat.le_refl _⟩ (fun b => b) ?_
          cases h
          exact r_vret dX7_askPlant_82
        · have h := ie h c
          refine r_aload_n (pc := 56) dX7_askPlant_56 rfl 1 rfl ?_
          refine r_aload_n (pc := 57) dX7_askPlant_57 rfl 1 rfl ?_
          refine r_getS (pc := 58) dX7_askPlant_58 fgX7_20 rfl g7 ha8 ?_
          refine r_getI (pc := 61) dX7_askPlant_61 fgX7_240 rfl g9 ?_
          refine r_iconst (pc := 64) dX7_askPlant_64 kc_iconst_0 ?_
          obtain ⟨I24, hc25, h⟩ := ob h
          refine r_callV0 (pc := 65) (av := [vI (I15 a8 2), vI (0 : Int32)]) (S := []) dX7_askPlant_65 (kX7_arise hc25) g7 rfl mkX7_182 mwX7_arise rfl ⟨Nat.le_of_ble_eq_true rfl, Nat.le_of_ble_eq_true rfl⟩ (Nat.le_of_ble_eq_true rfl) ⟨Nat.le_refl _, Nat.le_refl _⟩ (fun b => b) ?_
          refine r_goto (pc := 68) (tgt := 82) dX7_askPlant_68 rfl ?_
          cases h
          exact r_vret dX7_askPlant_82
      · have h := it h c
        refine r_aload_n (pc := 16) dX7_askPlant_16 rfl 0 rfl ?_
        refine r_iconst (pc := 17) dX7_askPlant_17 kc_iconst_2 ?_
        refine r_iconst (pc := 18) dX7_askPlant_18 kc_iconst_0 ?_
        obtain ⟨g26, h⟩ := gd h
        obtain ⟨I27, hc28, h⟩ := ob h
        refine r_callV0 (pc := 19) (av := [vI (2 : Int32), vI (0 : Int32)]) (S := []) dX7_askPlant_19 (kX7_arise hc28) g26 rfl mkX7_182 mwX7_arise rfl ⟨Nat.le_of_ble_eq_true rfl, Nat.le_of_ble_eq_true rfl⟩ (Nat.le_of_ble_eq_true rfl) ⟨Nat.le_refl _, Nat.le_refl _⟩ (fun b => b) ?_
        cases h
        exact r_vret dX7_askPlant_22
abbrev WX7_enterBody (G : Gx) (l : Launch) (σ0 : Shp) (X1 : Stt) (rv : Option SV) : Stt → Nat → List (Nat × SV) → List SV → Prop := Wm G l yX7_enterBody cX7_enterBody 5 none (fun _ => True) (rmx 3 61 σ0 X1.1) σ0 (Qmx G σ0 X1 rv)
def fX7_enterBody_b4  (t : Nat) (σ : Shp) (I : Nat → Nat → Int32) (R : Nat → Nat → Option Nat) (x1 : Int32) (x2 : Int32) (x3 : Int32) (s0 : Option Nat) : Option ((Shp) × (Nat → Nat → Int32) × (Nat → Nat → Option Nat)) :=
  onl s0
    (
      some (σ, I, R))
    (fun a7 =>
      if kdx σ a7 = 4 then
      let I9 := u2 I a7 0 x1
      let I10 := u2 I9 a7 1 x2
      let I11 := u2 I10 a7 2 x3
      let I12 := u2 I11 a7 3 (x3 + (1 : Int32))
      if kdx σ t = 8 then
      ((R t 2) : Option Nat).bind fun a14 =>
      if kdx σ a14 = 7 then
      (fX6_endAt σ I12 R a14 x2 x3).bind fun r16 =>
      let I18 := u2 I12 a7 4 r16
      (fX6_aAt σ I18 R a14 x2 x3).bind fun r19 =>
      let I21 := u2 I18 a7 5 r19
      (fX6_bAt σ I21 R a14 x2 x3).bind fun r22 =>
      let I24 := u2 I21 a7 6 r22
      (fX6_cAt σ I24 R a14 x2 x3).bind fun r25 =>
      let I27 := u2 I24 a7 7 r25
      some (σ, I27, R)
      else none
      else none
      else none)
theorem mX7_enterBody_b4 {σ : Shp} {I : Nat → Nat → Int32} {R : Nat → Nat → Option Nat} {t : Nat} {σ9 : Shp} {I9 : Nat → Nat → Int32} {R9 : Nat → Nat → Option Nat} {x1 : Int32} {x2 : Int32} {x3 : Int32} {s0 : Option Nat} (h : fX7_enterBody_b4 t σ I R x1 x2 x3 s0 = some (σ9, I9, R9)) : Lex σ σ9 := by
  unfold fX7_enterBody_b4 at h
  rcases onl_c h with ⟨ea7, h⟩ | ⟨a7, ha7, h⟩
  · cases h
    exact ⟨Nat.le_refl _, Nat.le_refl _⟩
  · replace h := (gd h).2
    replace h := (gd h).2
    obtain ⟨a14, ha14, h⟩ := ob h
    replace h := (gd h).2
    obtain ⟨r16, hc17, h⟩ := ob h
    obtain ⟨r19, hc20, h⟩ := ob h
    obtain ⟨r22, hc23, h⟩ := ob h
    obtain ⟨r25, hc26, h⟩ := ob h
    cases h
    exact ⟨Nat.le_refl _, Nat.le_refl _⟩
theorem wX7_enterBody_b4 {G : Gx} {l : Launch} {σ0 : Shp} {σ : Shp} {I : Nat → Nat → Int32} {J : Nat → Nat → Int64} {D : Nat → Nat → UInt64} {R : Nat → Nat → Option Nat} {t : Nat} {σ9 : Shp} {I9 : Nat → Nat → Int32} {R9 : Nat → Nat → Option Nat} {x1 : Int32} {x2 : Int32} {x3 : Int32} {s0 : Option Nat} (h : fX7_enterBody_b4 t σ I R x1 x2 x3 s0 = some (σ9, I9, R9)) : WX7_enterBody G l σ0 (σ9, I9, J, D, R9) none (σ, I, J, D, R) 4 [(0, vR (some t)), (1, vI x1), (2, vI x2), (3, vI x3)] [vR s0] := by
  unfold fX7_enterBody_b4 at h
  refine r_astore (pc := 4) (L' := [(4, vR s0), (0, vR (some t)), (1, vI x1), (2, vI x2), (3, vI x3)]) dX7_enterBody_4 (by decide) rfl ?_
  refine r_aload (pc := 6) dX7_enterBody_6 0 rfl ?_
  rcases onl_c h with ⟨ea7, h⟩ | ⟨a7, ha7, h⟩
  · refine r_ref0n ea7 ?_
    refine r_ifnonnull_n (pc := 8) dX7_enterBody_8 ?_
    cases h
    exact r_vret dX7_enterBody_11
  · refine r_ref0 ha7 ?_
    refine r_ifnonnull_s (pc := 8) (tgt := 12) dX7_enterBody_8 rfl ?_
    refine r_aload (pc := 12) dX7_enterBody_12 0 rfl ?_
    refine r_ref0 ha7 ?_
    refine r_iload_n (pc := 14) dX7_enterBody_14 rfl 2 rfl ?_
    obtain ⟨g8, h⟩ := gd h
    refine r_putI (pc := 15) dX7_enterBody_15 fwX7_133 rfl g8 ?_
    refine r_aload (pc := 18) dX7_enterBody_18 0 rfl ?_
    refine r_ref0 ha7 ?_
    refine r_iload_n (pc := 20) dX7_enterBody_20 rfl 3 rfl ?_
    refine r_putI (pc := 21) dX7_enterBody_21 fwX7_96 rfl g8 ?_
    refine r_aload (pc := 24) dX7_enterBody_24 0 rfl ?_
    refine r_ref0 ha7 ?_
    refine r_iload_n (pc := 26) dX7_enterBody_26 rfl 4 rfl ?_
    refine r_putI (pc := 27) dX7_enterBody_27 fwX7_136 rfl g8 ?_
    refine r_aload (pc := 30) dX7_enterBody_30 0 rfl ?_
    refine r_ref0 ha7 ?_
    refine r_iload_n (pc := 32) dX7_enterBody_32 rfl 4 rfl ?_
    refine r_iconst (pc := 33) dX7_enterBody_33 kc_iconst_1 ?_
    refine r_iadd (pc := 34) dX7_enterBody_34 ?_
    refine r_putI (pc := 35) dX7_enterBody_35 fwX7_82 rfl g8 ?_
    refine r_aload (pc := 38) dX7_enterBody_38 0 rfl ?_
    refine r_ref0 ha7 ?_
    refine r_aload_n (pc := 40) dX7_enterBody_40 rfl 1 rfl ?_
    obtain ⟨g13, h⟩ := gd h
    obtain ⟨a14, ha14, h⟩ := ob h
    refine r_getS (pc := 41) dX7_enterBody_41 fgX7_27 rfl g13 ha14 ?_
    refine r_iload_n (pc := 44) dX7_enterBody_44 rfl 3 rfl ?_
    refine r_iload_n (pc := 45) dX7_enterBody_45 rfl 4 rfl ?_
    obtain ⟨g15, h⟩ := gd h
    obtain ⟨r16, hc17, h⟩ := ob h
    refine r_callV1 (pc := 46) (av := [vI x2, vI x3]) (S := [vR (some a7)]) dX7_enterBody_46 (kX6_endAt hc17) g15 rfl mkX7_143 mwX6_endAt rfl ⟨Nat.le_of_ble_eq_true rfl, Nat.le_of_ble_eq_true rfl⟩ (Nat.le_of_ble_eq_true rfl) ⟨Nat.le_refl _, Nat.le_refl _⟩ (fun b => b) ?_
    refine r_putI (pc := 49) dX7_enterBody_49 fwX7_85 rfl g8 ?_
    refine r_aload (pc := 52) dX7_enterBody_52 0 rfl ?_
    refine r_ref0 ha7 ?_
    refine r_aload_n (pc := 54) dX7_enterBody_54 rfl 1 rfl ?_
    refine r_getS (pc := 55) dX7_enterBody_55 fgX7_27 rfl g13 ha14 ?_
    refine r_iload_n (pc := 58) dX7_enterBody_58 rfl 3 rfl ?_
    refine r_iload_n (pc := 59) dX7_enterBody_59 rfl 4 rfl ?_
    obtain ⟨r19, hc20, h⟩ := ob h
    refine r_callV1 (pc := 60) (av := [vI x2, vI x3]) (S := [vR (some a7)]) dX7_enterBody_60 (kX6_aAt hc20) g15 rfl mkX7_106 mwX6_aAt rfl ⟨Nat.le_of_ble_eq_true rfl, Nat.le_of_ble_eq_true rfl⟩ (Nat.le_of_ble_eq_true rfl) ⟨Nat.le_refl _, Nat.le_refl _⟩ (fun b => b) ?_
    refine r_putI (pc := 63) dX7_enterBody_63 fwX7_146 rfl g8 ?_
    refine r_aload (pc := 66) dX7_enterBody_66 0 rfl ?_
    refine r_ref0 ha7 ?_
    refine r_aload_n (pc := 68) dX7_enterBody_68 rfl 1 rfl ?_
    refine r_getS (pc := 69) dX7_enterBody_69 fgX7_27 rfl g13 ha14 ?_
    refine r_iload_n (pc := 72) dX7_enterBody_72 rfl 3 rfl ?_
    refine r_iload_n (pc := 73) dX7_enterBody_73 rfl 4 rfl ?_
    obtain ⟨r22, hc23, h⟩ := ob h
    refine r_callV1 (pc := 74) (av := [vI x2, vI x3]) (S := [vR (some a7)]) dX7_enterBody_74 (kX6_bAt hc23) g15 rfl mkX7_149 mwX6_bAt rfl ⟨Nat.le_of_ble_eq_true rfl, Nat.le_of_ble_eq_true rfl⟩ (Nat.le_of_ble_eq_true rfl) ⟨Nat.le_refl _, Nat.le_refl _⟩ (fun b => b) ?_
    refine r_putI (pc := 77) dX7_enterBody_77 fwX7_152 rfl g8 ?_
    refine r_aload (pc := 80) dX7_enterBody_80 0 rfl ?_
    refine r_ref0 ha7 ?_
    refine r_aload_n (pc := 82) dX7_enterBody_82 rfl 1 rfl ?_
    refine r_getS (pc := 83) dX7_enterBody_83 fgX7_27 rfl g13 ha14 ?_
    refine r_iload_n (pc := 86) dX7_enterBody_86 rfl 3 rfl ?_
    refine r_iload_n (pc := 87) dX7_enterBody_87 rfl 4 rfl ?_
    obtain ⟨r25, hc26, h⟩ := ob h
    refine r_callV1 (pc := 88) (av := [vI x2, vI x3]) (S := [vR (some a7)]) dX7_enterBody_88 (kX6_cAt hc26) g15 rfl mkX7_155 mwX6_cAt rfl ⟨Nat.le_of_ble_eq_true rfl, Nat.le_of_ble_eq_true rfl⟩ (Nat.le_of_ble_eq_true rfl) ⟨Nat.le_refl _, Nat.le_refl _⟩ (fun b => b) ?_
    refine r_putI (pc := 91) dX7_enterBody_91 fwX7_158 rfl g8 ?_
    cases h
    exact r_vret dX7_enterBody_94
def fX7_enterBody (σ : Shp) (I : Nat → Nat → Int32) (R : Nat → Nat → Option Nat) (t : Nat) (x1 : Int32) (x2 : Int32) (x3 : Int32) : Option ((Shp) × (Nat → Nat → Int32) × (Nat → Nat → Option Nat)) :=
  if kdx σ t = 8 then
  (fX7_newTop σ I R t).bind fun (σ2, I3, R4, r5) =>
  fX7_enterBody_b4 t σ2 I3 R4 x1 x2 x3 r5
  else none
theorem mX7_enterBody {σ : Shp} {I : Nat → Nat → Int32} {R : Nat → Nat → Option Nat} {t : Nat} {x1 : Int32} {x2 : Int32} {x3 : Int32} {σ9 : Shp} {I9 : Nat → Nat → Int32} {R9 : Nat → Nat → Option Nat} (h : fX7_enterBody σ I R t x1 x2 x3 = some (σ9, I9, R9)) : Lex σ σ9 := by
  unfold fX7_enterBody at h
  replace h := (gd h).2
  obtain ⟨⟨σ2, I3, R4, r5⟩, hc6, h⟩ := ob h
  refine Lex.trans (mX7_newTop hc6) ?_
  exact mX7_enterBody_b4 h
theorem kX7_enterBody {G : Gx} {l : Launch} {σ : Shp} {I : Nat → Nat → Int32} {J : Nat → Nat → Int64} {D : Nat → Nat → UInt64} {R : Nat → Nat → Option Nat} {t : Nat} {x1 : Int32} {x2 : Int32} {x3 : Int32} {σ9 : Shp} {I9 : Nat → Nat → Int32} {R9 : Nat → Nat → Option Nat} (h : fX7_enterBody σ I R t x1 x2 x3 = some (σ9, I9, R9)) : Con G l yX7_enterBody cX7_enterBody 5 none 3 61 [vR (some t), vI x1, vI x2, vI x3] (σ, I, J, D, R) (σ9, I9, J, D, R9) none := by
  unfold fX7_enterBody at h
  refine Con.mk (by decide +kernel) rfl (Nat.le_of_ble_eq_true rfl) ?_
  show WX7_enterBody G l σ (σ9, I9, J, D, R9) none (σ, I, J, D, R) 0 _ []
  refine r_aload_n (pc := 0) dX7_enterBody_0 rfl 0 rfl ?_
  obtain ⟨g1, h⟩ := gd h
  obtain ⟨⟨σ2, I3, R4, r5⟩, hc6, h⟩ := ob h
  refine r_callV1 (pc := 1) (av := []) (S := []) dX7_enterBody_1 (kX7_newTop hc6) g1 rfl mkX7_130 mwX7_newTop rfl ⟨Nat.le_of_ble_eq_true rfl, Nat.le_of_ble_eq_true rfl⟩ (Nat.le_of_ble_eq_true rfl) (mX7_newTop hc6) (bdx_le (mX7_newTop hc6) (mX7_enterBody_b4 h)) ?_
  refine r_sub [0, 1, 2, 3] rfl ?_
  exact wX7_enterBody_b4 h
abbrev WX8_heldInAll (G : Gx) (l : Launch) (σ0 : Shp) (X1 : Stt) (rv : Option SV) : Stt → Nat → List (Nat × SV) → List SV → Prop := Wm G l yX8_heldInAll cX8_heldInAll 3 (some .int) (fun _ => True) (rmx 0 0 σ0 X1.1) σ0 (Qmx G σ0 X1 rv)
def fX8_heldInAll_l4  (σ : Shp) (I : Nat → Nat → Int32) (R : Nat → Nat → Option Nat) (t : Nat) : Nat → (Int32) → (Int32) → Option ((Int32))
  | 0, _, _ => none
  | n + 1, x1, x2 =>
    if (3 : Int32) ≤ x2 then
      some x1
    else
      if kdx σ t = 9 then
      ((R t 2) : Option Nat).bind fun a2 =>
      if kdx σ a2 = 20 then
      if ¬ (x2 < 0 ∨ lnx σ a2 ≤ Int32.toNatClampNeg x2) then
      let v5 := (x1 + (I a2 (Int32.toNatClampNeg x2)))
      let v6 := x2 + (1 : Int32)
      fX8_heldInAll_l4 σ I R t n v5 v6
      else none
      else none
      else none
theorem wX8_heldInAll_l4 {G : Gx} {l : Launch} {σ : Shp} {I : Nat → Nat → Int32} {J : Nat → Nat → Int64} {D : Nat → Nat → UInt64} {R : Nat → Nat → Option Nat} {t : Nat} {r9 : Int32} : ∀ (n : Nat) (x1 : Int32) (x2 : Int32), fX8_heldInAll_l4 σ I R t n x1 x2 = some r9 → WX8_heldInAll G l σ (σ, I, J, D, R) (some (vI r9)) (σ, I, J, D, R) 4 [(0, vR (some t)), (1, vI x1), (2, vI x2)] [] := by
  intro n
  induction n with
  | zero =>
    intro x1 x2 h
    have h : none = some _ := h
    cases h
  | succ n ih =>
    intro x1 x2 h
    rw [fX8_heldInAll_l4] at h
    refine r_iload_n (pc := 4) dX8_heldInAll_4 rfl 2 rfl ?_
    refine r_iconst (pc := 5) dX8_heldInAll_5 kc_iconst_3 ?_
    refine r_icmp_ge (pc := 6) (tgt := 24) dX8_heldInAll_6 rfl (fun c => ?_) (fun c => ?_)
    · have h := it h c
      refine r_iload_n (pc := 24) dX8_heldInAll_24 rfl 1 rfl ?_
      cases h
      exact r_iret dX8_heldInAll_25
    · have h := ie h c
      refine r_iload_n (pc := 9) dX8_heldInAll_9 rfl 1 rfl ?_
      refine r_aload_n (pc := 10) dX8_heldInAll_10 rfl 0 rfl ?_
      obtain ⟨g1, h⟩ := gd h
      obtain ⟨a2, ha2, h⟩ := ob h
      refine r_getS (pc := 11) dX8_heldInAll_11 fgX8_17 rfl g1 ha2 ?_
      refine r_iload_n (pc := 14) dX8_heldInAll_14 rfl 2 rfl ?_
      obtain ⟨g3, h⟩ := gd h
      obtain ⟨g4, h⟩ := gd h
      refine r_iaload (pc := 15) dX8_heldInAll_15 g3 g4 ?_
      refine r_iadd (pc := 16) dX8_heldInAll_16 ?_
      refine r_istore_n (pc := 17) (L' := [(1, vI (x1 + (I a2 (Int32.toNatClampNeg x2)))), (0, vR (some t)), (2, vI x2)]) dX8_heldInAll_17 rfl (by decide) rfl ?_
      refine r_iinc (pc := 18) (v := (x2 + (1 : Int32))) (L' := [(2, vI (x2 + (1 : Int32))), (1, vI (x1 + (I a2 (Int32.toNatClampNeg x2)))), (0, vR (some t))]) dX8_heldInAll_18 2 rfl (kc_inc_1 _) (by decide) rfl ?_
      refine r_goto (pc := 21) (tgt := 4) dX8_heldInAll_21 rfl ?_
      refine r_sub [2, 1, 0] rfl ?_
      exact ih _ _ h
def fX8_heldInAll (σ : Shp) (I : Nat → Nat → Int32) (R : Nat → Nat → Option Nat) (t : Nat)  : Option ((Int32)) :=
  fX8_heldInAll_l4 σ I R t FUx (0 : Int32) (0 : Int32)
theorem kX8_heldInAll {G : Gx} {l : Launch} {σ : Shp} {I : Nat → Nat → Int32} {J : Nat → Nat → Int64} {D : Nat → Nat → UInt64} {R : Nat → Nat → Option Nat} {t : Nat}  {r9 : Int32} (h : fX8_heldInAll σ I R t = some r9) : Con G l yX8_heldInAll cX8_heldInAll 3 (some .int) 0 0 [vR (some t)] (σ, I, J, D, R) (σ, I, J, D, R) (some (vI r9)) := by
  unfold fX8_heldInAll at h
  refine Con.mk (by decide +kernel) rfl (Nat.le_of_ble_eq_true rfl) ?_
  show WX8_heldInAll G l σ (σ, I, J, D, R) (some (vI r9)) (σ, I, J, D, R) 0 _ []
  refine r_iconst (pc := 0) dX8_heldInAll_0 kc_iconst_0 ?_
  refine r_istore_n (pc := 1) (L' := [(1, vI (0 : Int32)), (0, vR (some t))]) dX8_heldInAll_1 rfl (by decide) rfl ?_
  refine r_iconst (pc := 2) dX8_heldInAll_2 kc_iconst_0 ?_
  refine r_istore_n (pc := 3) (L' := [(2, vI (0 : Int32)), (1, vI (0 : Int32)), (0, vR (some t))]) dX8_heldInAll_3 rfl (by decide) rfl ?_
  refine r_sub [2, 1, 0] rfl ?_
  exact wX8_heldInAll_l4 _ _ _ h
abbrev WX7_beginBody (G : Gx) (l : Launch) (σ0 : Shp) (X1 : Stt) (rv : Option SV) : Stt → Nat → List (Nat × SV) → List SV → Prop := Wm G l yX7_beginBody cX7_beginBody 5 none (fun _ => True) (rmx 4 85 σ0 X1.1) σ0 (Qmx G σ0 X1 rv)
def fX7_beginBody_b99  (t : Nat) (σ : Shp) (I : Nat → Nat → Int32) (J : Nat → Nat → Int64) (R : Nat → Nat → Option Nat) (x2 : Int32) (x3 : Int32) (x4 : Int32) : Option ((Shp) × (Nat → Nat → Int32) × (Nat → Nat → Int64) × (Nat → Nat → Option Nat)) :=
  if x2 = (11 : Int32) then
    if kdx σ t = 8 then
    ((R t 3) : Option Nat).bind fun a29 =>
    if kdx σ a29 = 9 then
    ((R a29 2) : Option Nat).bind fun a31 =>
    if kdx σ a31 = 20 then
    if ¬ (x3 < 0 ∨ lnx σ a31 ≤ Int32.toNatClampNeg x3) then
    let I34 := u2 I a31 (Int32.toNatClampNeg x3) ((I a31 (Int32.toNatClampNeg x3)) + (1 : Int32))
    (fX8_heldInAll σ I34 R a29).bind fun r35 =>
    let I37 := u2 I34 t 12 (fXM_maxI (I34 t 12) r35)
    some (σ, I37, J, R)
    else none
    else none
    else none
    else none
  else
    if x2 = (12 : Int32) then
      if kdx σ t = 8 then
      ((R t 3) : Option Nat).bind fun a19 =>
      if kdx σ a19 = 9 then
      ((R a19 0) : Option Nat).bind fun a21 =>
      if kdx σ a21 = 21 then
      if ¬ (x3 < 0 ∨ lnx σ a21 ≤ Int32.toNatClampNeg x3) then
      (fX8_changeStock σ I J R a19 x3 ((J a21 (Int32.toNatClampNeg x3)) - (Int32.toInt64 x4))).bind fun (I24, J25, R26) =>
      some (σ, I24, J25, R26)
      else none
      else none
      else none
      else none
    else
      if x2 = (13 : Int32) then
        if kdx σ t = 8 then
        ((R t 3) : Option Nat).bind fun a12 =>
        if kdx σ a12 = 9 then
        ((R a12 1) : Option Nat).bind fun a14 =>
        if kdx σ a14 = 20 then
        if ¬ (x3 < 0 ∨ lnx σ a14 ≤ Int32.toNatClampNeg x3) then
        let I17 := u2 I a14 (Int32.toNatClampNeg x3) x4
        some (σ, I17, J, R)
        else none
        else none
        else none
        else none
      else
        some (σ, I, J, R)
theorem mX7_beginBody_b99 {σ : Shp} {I : Nat → Nat → Int32} {J : Nat → Nat → Int64} {R : Nat → Nat → Option Nat} {t : Nat} {σ9 : Shp} {I9 : Nat → Nat → Int32} {J9 : Nat → Nat → Int64} {R9 : Nat → Nat → Option Nat} {x2 : Int32} {x3 : Int32} {x4 : Int32} (h : fX7_beginBody_b99 t σ I J R x2 x3 x4 = some (σ9, I9, J9, R9)) : Lex σ σ9 := by
  unfold fX7_beginBody_b99 at h
  rcases itc h with ⟨c, h⟩ | ⟨c, h⟩
  · replace h := (gd h).2
    obtain ⟨a29, ha29, h⟩ := ob h
    replace h := (gd h).2
    obtain ⟨a31, ha31, h⟩ := ob h
    replace h := (gd h).2
    replace h := (gd h).2
    obtain ⟨r35, hc36, h⟩ := ob h
    cases h
    exact ⟨Nat.le_refl _, Nat.le_refl _⟩
  · rcases itc h with ⟨c, h⟩ | ⟨c, h⟩
    · replace h := (gd h).2
      obtain ⟨a19, ha19, h⟩ := ob h
      replace h := (gd h).2
      obtain ⟨a21, ha21, h⟩ := ob h
      replace h := (gd h).2
      replace h := (gd h).2
      obtain ⟨⟨I24, J25, R26⟩, hc27, h⟩ := ob h
      cases h
      exact ⟨Nat.le_refl _, Nat.le_refl _⟩
    · rcases itc h with ⟨c, h⟩ | ⟨c, h⟩
      · replace h := (gd h).2
        obtain ⟨a12, ha12, h⟩ := ob h
        replace h := (gd h).2
        obtain ⟨a14, ha14, h⟩ := ob h
        replace h := (gd h).2
        replace h := (gd h).2
        cases h
        exact ⟨Nat.le_refl _, Nat.le_refl _⟩
      · cases h
        exact ⟨Nat.le_refl _, Nat.le_refl _⟩
theorem wX7_beginBody_b99 {G : Gx} {l : Launch} {σ0 : Shp} {σ : Shp} {I : Nat → Nat → Int32} {J : Nat → Nat → Int64} {D : Nat → Nat → UInt64} {R : Nat → Nat → Option Nat} {t : Nat} {σ9 : Shp} {I9 : Nat → Nat → Int32} {J9 : Nat → Nat → Int64} {R9 : Nat → Nat → Option Nat} {x2 : Int32} {x3 : Int32} {x4 : Int32} (h : fX7_beginBody_b99 t σ I J R x2 x3 x4 = some (σ9, I9, J9, R9)) : WX7_beginBody G l σ0 (σ9, I9, J9, D, R9) none (σ, I, J, D, R) 99 [(0, vR (some t)), (2, vI x2), (3, vI x3), (4, vI x4)] [] := by
  unfold fX7_beginBody_b99 at h
  refine r_iload_n (pc := 99) dX7_beginBody_99 rfl 1 rfl ?_
  refine r_bipush (pc := 100) dX7_beginBody_100 kc_bipush_11 ?_
  refine r_icmp_ne (pc := 102) (tgt := 139) dX7_beginBody_102 rfl (fun c => ?_) (fun c => ?_)
  · have h := ie h c
    refine r_iload_n (pc := 139) dX7_beginBody_139 rfl 1 rfl ?_
    refine r_bipush (pc := 140) dX7_beginBody_140 kc_bipush_12 ?_
    refine r_icmp_ne (pc := 142) (tgt := 169) dX7_beginBody_142 rfl (fun c => ?_) (fun c => ?_)
    · have h := ie h c
      refine r_iload_n (pc := 169) dX7_beginBody_169 rfl 1 rfl ?_
      refine r_bipush (pc := 170) dX7_beginBody_170 kc_bipush_13 ?_
      refine r_icmp_ne (pc := 172) (tgt := 186) dX7_beginBody_172 rfl (fun c => ?_) (fun c => ?_)
      · have h := ie h c
        cases h
        exact r_vret dX7_beginBody_186
      · have h := it h c
        refine r_aload_n (pc := 175) dX7_beginBody_175 rfl 0 rfl ?_
        obtain ⟨g11, h⟩ := gd h
        obtain ⟨a12, ha12, h⟩ := ob h
        refine r_getS (pc := 176) dX7_beginBody_176 fgX7_34 rfl g11 ha12 ?_
        obtain ⟨g13, h⟩ := gd h
        obtain ⟨a14, ha14, h⟩ := ob h
        refine r_getS (pc := 179) dX7_beginBody_179 fgX7_257 rfl g13 ha14 ?_
        refine r_iload_n (pc := 182) dX7_beginBody_182 rfl 2 rfl ?_
        refine r_iload (pc := 183) dX7_beginBody_183 3 rfl ?_
        obtain ⟨g15, h⟩ := gd h
        obtain ⟨g16, h⟩ := gd h
        refine r_iastore (pc := 185) dX7_beginBody_185 g15 g16 ?_
        cases h
        exact r_vret dX7_beginBody_186
    · have h := it h c
      refine r_aload_n (pc := 145) dX7_beginBody_145 rfl 0 rfl ?_
      obtain ⟨g18, h⟩ := gd h
      obtain ⟨a19, ha19, h⟩ := ob h
      refine r_getS (pc := 146) dX7_beginBody_146 fgX7_34 rfl g18 ha19 ?_
      refine r_iload_n (pc := 149) dX7_beginBody_149 rfl 2 rfl ?_
      refine r_aload_n (pc := 150) dX7_beginBody_150 rfl 0 rfl ?_
      refine r_getS (pc := 151) dX7_beginBody_151 fgX7_34 rfl g18 ha19 ?_
      obtain ⟨g20, h⟩ := gd h
      obtain ⟨a21, ha21, h⟩ := ob h
      refine r_getS (pc := 154) dX7_beginBody_154 fgX7_185 rfl g20 ha21 ?_
      refine r_iload_n (pc := 157) dX7_beginBody_157 rfl 2 rfl ?_
      obtain ⟨g22, h⟩ := gd h
      obtain ⟨g23, h⟩ := gd h
      refine r_laload (pc := 158) dX7_beginBody_158 g22 g23 ?_
      refine r_iload (pc := 159) dX7_beginBody_159 3 rfl ?_
      refine r_i2l (pc := 161) dX7_beginBody_161 ?_
      refine r_lsub (pc := 162) dX7_beginBody_162 ?_
      obtain ⟨⟨I24, J25, R26⟩, hc27, h⟩ := ob h
      refine r_callV0 (pc := 163) (av := [vI x3, vL ((J a21 (Int32.toNatClampNeg x3)) - (Int32.toInt64 x4))]) (S := []) dX7_beginBody_163 (kX8_changeStock hc27) g20 rfl mkX7_189 mwX8_changeStock rfl ⟨Nat.le_of_ble_eq_true rfl, Nat.le_of_ble_eq_true rfl⟩ (Nat.le_of_ble_eq_true rfl) ⟨Nat.le_refl _, Nat.le_refl _⟩ (fun b => b) ?_
      refine r_goto (pc := 166) (tgt := 186) dX7_beginBody_166 rfl ?_
      cases h
      exact r_vret dX7_beginBody_186
  · have h := it h c
    refine r_aload_n (pc := 105) dX7_beginBody_105 rfl 0 rfl ?_
    obtain ⟨g28, h⟩ := gd h
    obtain ⟨a29, ha29, h⟩ := ob h
    refine r_getS (pc := 106) dX7_beginBody_106 fgX7_34 rfl g28 ha29 ?_
    obtain ⟨g30, h⟩ := gd h
    obtain ⟨a31, ha31, h⟩ := ob h
    refine r_getS (pc := 109) dX7_beginBody_109 fgX7_208 rfl g30 ha31 ?_
    refine r_iload_n (pc := 112) dX7_beginBody_112 rfl 2 rfl ?_
    refine r_dup2 (pc := 113) dX7_beginBody_113 rfl rfl ?_
    obtain ⟨g32, h⟩ := gd h
    obtain ⟨g33, h⟩ := gd h
    refine r_iaload (pc := 114) dX7_beginBody_114 g32 g33 ?_
    refine r_iconst (pc := 115) dX7_beginBody_115 kc_iconst_1 ?_
    refine r_iadd (pc := 116) dX7_beginBody_116 ?_
    refine r_iastore (pc := 117) dX7_beginBody_117 g32 g33 ?_
    refine r_aload_n (pc := 118) dX7_beginBody_118 rfl 0 rfl ?_
    refine r_aload_n (pc := 119) dX7_beginBody_119 rfl 0 rfl ?_
    refine r_getI (pc := 120) dX7_beginBody_120 fgX7_64 rfl g28 ?_
    refine r_aload_n (pc := 123) dX7_beginBody_123 rfl 0 rfl ?_
    refine r_getS (pc := 124) dX7_beginBody_124 fgX7_34 rfl g28 ha29 ?_
    obtain ⟨r35, hc36, h⟩ := ob h
    refine r_callV1 (pc := 127) (av := []) (S := [vI ((u2 I a31 (Int32.toNatClampNeg x3) ((I a31 (Int32.toNatClampNeg x3)) + (1 : Int32))) t 12), vR (some t)]) dX7_beginBody_127 (kX8_heldInAll hc36) g30 rfl mkX7_249 mwX8_heldInAll rfl ⟨Nat.le_of_ble_eq_true rfl, Nat.le_of_ble_eq_true rfl⟩ (Nat.le_of_ble_eq_true rfl) ⟨Nat.le_refl _, Nat.le_refl _⟩ (fun b => b) ?_
    refine r_callS1 (pc := 130) (av := [vI ((u2 I a31 (Int32.toNatClampNeg x3) ((I a31 (Int32.toNatClampNeg x3)) + (1 : Int32))) t 12), vI r35]) (S := [vR (some t)]) dX7_beginBody_130 (kXM_maxI rfl) mkX7_252 mwXM_maxI rfl ⟨Nat.le_of_ble_eq_true rfl, Nat.le_of_ble_eq_true rfl⟩ (Nat.le_of_ble_eq_true rfl) ⟨Nat.le_refl _, Nat.le_refl _⟩ (fun b => b) ?_
    refine r_putI (pc := 133) dX7_beginBody_133 fwX7_64 rfl g28 ?_
    refine r_goto (pc := 136) (tgt := 186) dX7_beginBody_136 rfl ?_
    cases h
    exact r_vret dX7_beginBody_186
def fX7_beginBody_b74  (t : Nat) (σ : Shp) (I : Nat → Nat → Int32) (J : Nat → Nat → Int64) (R : Nat → Nat → Option Nat) (x1 : Int32) (x2 : Int32) (x3 : Int32) (x4 : Int32) : Option ((Shp) × (Nat → Nat → Int32) × (Nat → Nat → Int64) × (Nat → Nat → Option Nat)) :=
  if kdx σ t = 8 then
  ((R t 3) : Option Nat).bind fun a2 =>
  if kdx σ a2 = 9 then
  ((R a2 0) : Option Nat).bind fun a4 =>
  if kdx σ a4 = 21 then
  if ¬ (x3 < 0 ∨ lnx σ a4 ≤ Int32.toNatClampNeg x3) then
  if (0 : Int64) < (J a4 (Int32.toNatClampNeg x3)) then
    (fX7_enterBody σ I R t x2 x1 (I t 7)).bind fun (σ7, I8, R9) =>
    fX7_beginBody_b99 t σ7 I8 J R9 x2 x3 x4
  else
    some (σ, I, J, R)
  else none
  else none
  else none
  else none
theorem mX7_beginBody_b74 {σ : Shp} {I : Nat → Nat → Int32} {J : Nat → Nat → Int64} {R : Nat → Nat → Option Nat} {t : Nat} {σ9 : Shp} {I9 : Nat → Nat → Int32} {J9 : Nat → Nat → Int64} {R9 : Nat → Nat → Option Nat} {x1 : Int32} {x2 : Int32} {x3 : Int32} {x4 : Int32} (h : fX7_beginBody_b74 t σ I J R x1 x2 x3 x4 = some (σ9, I9, J9, R9)) : Lex σ σ9 := by
  unfold fX7_beginBody_b74 at h
  replace h := (gd h).2
  obtain ⟨a2, ha2, h⟩ := ob h
  replace h := (gd h).2
  obtain ⟨a4, ha4, h⟩ := ob h
  replace h := (gd h).2
  replace h := (gd h).2
  rcases itc h with ⟨c, h⟩ | ⟨c, h⟩
  · obtain ⟨⟨σ7, I8, R9⟩, hc10, h⟩ := ob h
    refine Lex.trans (mX7_enterBody hc10) ?_
    exact mX7_beginBody_b99 h
  · cases h
    exact ⟨Nat.le_refl _, Nat.le_refl _⟩
theorem wX7_beginBody_b74 {G : Gx} {l : Launch} {σ0 : Shp} {σ : Shp} {I : Nat → Nat → Int32} {J : Nat → Nat → Int64} {D : Nat → Nat → UInt64} {R : Nat → Nat → Option Nat} {t : Nat} {σ9 : Shp} {I9 : Nat → Nat → Int32} {J9 : Nat → Nat → Int64} {R9 : Nat → Nat → Option Nat} {x1 : Int32} {x2 : Int32} {x3 : Int32} {x4 : Int32} (h : fX7_beginBody_b74 t σ I J R x1 x2 x3 x4 = some (σ9, I9, J9, R9)) : WX7_beginBody G l σ0 (σ9, I9, J9, D, R9) none (σ, I, J, D, R) 74 [(0, vR (some t)), (1, vI x1), (2, vI x2), (3, vI x3), (4, vI x4)] [] := by
  unfold fX7_beginBody_b74 at h
  refine r_aload_n (pc := 74) dX7_beginBody_74 rfl 0 rfl ?_
  obtain ⟨g1, h⟩ := gd h
  obtain ⟨a2, ha2, h⟩ := ob h
  refine r_getS (pc := 75) dX7_beginBody_75 fgX7_34 rfl g1 ha2 ?_
  obtain ⟨g3, h⟩ := gd h
  obtain ⟨a4, ha4, h⟩ := ob h
  refine r_getS (pc := 78) dX7_beginBody_78 fgX7_185 rfl g3 ha4 ?_
  refine r_iload_n (pc := 81) dX7_beginBody_81 rfl 3 rfl ?_
  obtain ⟨g5, h⟩ := gd h
  obtain ⟨g6, h⟩ := gd h
  refine r_laload (pc := 82) dX7_beginBody_82 g5 g6 ?_
  refine r_lconst (pc := 83) dX7_beginBody_83 kc_lconst_0 ?_
  refine r_lcmp (pc := 84) dX7_beginBody_84 ?_
  refine r_ifgt (pc := 85) (tgt := 89) dX7_beginBody_85 rfl (fun c => ?_) (fun c => ?_)
  · have h := it h (lgc_gt.mp c)
    refine r_aload_n (pc := 89) dX7_beginBody_89 rfl 0 rfl ?_
    refine r_iload_n (pc := 90) dX7_beginBody_90 rfl 2 rfl ?_
    refine r_iload_n (pc := 91) dX7_beginBody_91 rfl 1 rfl ?_
    refine r_aload_n (pc := 92) dX7_beginBody_92 rfl 0 rfl ?_
    refine r_getI (pc := 93) dX7_beginBody_93 fgX7_99 rfl g1 ?_
    obtain ⟨⟨σ7, I8, R9⟩, hc10, h⟩ := ob h
    refine r_callV0 (pc := 96) (av := [vI x2, vI x1, vI (I t 7)]) (S := []) dX7_beginBody_96 (kX7_enterBody hc10) g1 rfl mkX7_246 mwX7_enterBody rfl ⟨Nat.le_of_ble_eq_true rfl, Nat.le_of_ble_eq_true rfl⟩ (Nat.le_of_ble_eq_true rfl) (mX7_enterBody hc10) (bdx_le (mX7_enterBody hc10) (mX7_beginBody_b99 h)) ?_
    refine r_sub [0, 2, 3, 4] rfl ?_
    exact wX7_beginBody_b99 h
  · have h := ie h (fun q => c (lgc_gt.mpr q))
    cases h
    exact r_vret dX7_beginBody_88
def fX7_beginBody_b62  (t : Nat) (σ : Shp) (I : Nat → Nat → Int32) (J : Nat → Nat → Int64) (R : Nat → Nat → Option Nat) (x1 : Int32) (x2 : Int32) (x3 : Int32) (x4 : Int32) : Option ((Shp) × (Nat → Nat → Int32) × (Nat → Nat → Int64) × (Nat → Nat → Option Nat)) :=
  if x2 = (19 : Int32) then
    fX7_beginBody_b74 t σ I J R x1 x2 x3 x4
  else
    if x2 = (20 : Int32) then
      fX7_beginBody_b74 t σ I J R x1 x2 x3 x4
    else
      if kdx σ t = 8 then
      (fX7_enterBody σ I R t x2 x1 (I t 7)).bind fun (σ39, I40, R41) =>
      fX7_beginBody_b99 t σ39 I40 J R41 x2 x3 x4
      else none
theorem mX7_beginBody_b62 {σ : Shp} {I : Nat → Nat → Int32} {J : Nat → Nat → Int64} {R : Nat → Nat → Option Nat} {t : Nat} {σ9 : Shp} {I9 : Nat → Nat → Int32} {J9 : Nat → Nat → Int64} {R9 : Nat → Nat → Option Nat} {x1 : Int32} {x2 : Int32} {x3 : Int32} {x4 : Int32} (h : fX7_beginBody_b62 t σ I J R x1 x2 x3 x4 = some (σ9, I9, J9, R9)) : Lex σ σ9 := by
  unfold fX7_beginBody_b62 at h
  rcases itc h with ⟨c, h⟩ | ⟨c, h⟩
  · exact mX7_beginBody_b74 h
  · rcases itc h with ⟨c, h⟩ | ⟨c, h⟩
    · exact mX7_beginBody_b74 h
    · replace h := (gd h).2
      obtain ⟨⟨σ39, I40, R41⟩, hc42, h⟩ := ob h
      refine Lex.trans (mX7_enterBody hc42) ?_
      exact mX7_beginBody_b99 h
theorem wX7_beginBody_b62 {G : Gx} {l : Launch} {σ0 : Shp} {σ : Shp} {I : Nat → Nat → Int32} {J : Nat → Nat → Int64} {D : Nat → Nat → UInt64} {R : Nat → Nat → Option Nat} {t : Nat} {σ9 : Shp} {I9 : Nat → Nat → Int32} {J9 : Nat → Nat → Int64} {R9 : Nat → Nat → Option Nat} {x1 : Int32} {x2 : Int32} {x3 : Int32} {x4 : Int32} (h : fX7_beginBody_b62 t σ I J R x1 x2 x3 x4 = some (σ9, I9, J9, R9)) : WX7_beginBody G l σ0 (σ9, I9, J9, D, R9) none (σ, I, J, D, R) 62 [(0, vR (some t)), (1, vI x1), (2, vI x2), (3, vI x3), (4, vI x4)] [] := by
  unfold fX7_beginBody_b62 at h
  refine r_iload_n (pc := 62) dX7_beginBody_62 rfl 2 rfl ?_
  refine r_bipush (pc := 63) dX7_beginBody_63 kc_bipush_19 ?_
  refine r_icmp_eq (pc := 65) (tgt := 74) dX7_beginBody_65 rfl (fun c => ?_) (fun c => ?_)
  · have h := it h c
    refine r_sub [0, 1, 2, 3, 4] rfl ?_
    exact wX7_beginBody_b74 h
  · have h := ie h c
    refine r_iload_n (pc := 68) dX7_beginBody_68 rfl 2 rfl ?_
    refine r_bipush (pc := 69) dX7_beginBody_69 kc_bipush_20 ?_
    refine r_icmp_ne (pc := 71) (tgt := 89) dX7_beginBody_71 rfl (fun c => ?_) (fun c => ?_)
    · have h := ie h c
      refine r_aload_n (pc := 89) dX7_beginBody_89 rfl 0 rfl ?_
      refine r_iload_n (pc := 90) dX7_beginBody_90 rfl 2 rfl ?_
      refine r_iload_n (pc := 91) dX7_beginBody_91 rfl 1 rfl ?_
      refine r_aload_n (pc := 92) dX7_beginBody_92 rfl 0 rfl ?_
      obtain ⟨g38, h⟩ := gd h
      refine r_getI (pc := 93) dX7_beginBody_93 fgX7_99 rfl g38 ?_
      obtain ⟨⟨σ39, I40, R41⟩, hc42, h⟩ := ob h
      refine r_callV0 (pc := 96) (av := [vI x2, vI x1, vI (I t 7)]) (S := []) dX7_beginBody_96 (kX7_enterBody hc42) g38 rfl mkX7_246 mwX7_enterBody rfl ⟨Nat.le_of_ble_eq_true rfl, Nat.le_of_ble_eq_true rfl⟩ (Nat.le_of_ble_eq_true rfl) (mX7_enterBody hc42) (bdx_le (mX7_enterBody hc42) (mX7_beginBody_b99 h)) ?_
      refine r_sub [0, 2, 3, 4] rfl ?_
      exact wX7_beginBody_b99 h
    · have h := it h c
      refine r_sub [0, 1, 2, 3, 4] rfl ?_
      exact wX7_beginBody_b74 h
def fX7_beginBody_b36  (t : Nat) (σ : Shp) (I : Nat → Nat → Int32) (J : Nat → Nat → Int64) (R : Nat → Nat → Option Nat) (x1 : Int32) (x2 : Int32) (x3 : Int32) (x4 : Int32) : Option ((Shp) × (Nat → Nat → Int32) × (Nat → Nat → Int64) × (Nat → Nat → Option Nat)) :=
  if x2 = (15 : Int32) then
    if x3 < (1 : Int32) then
      if kdx σ t = 8 then
      (fX7_arise σ I R t (8 : Int32) (96 : Int32)).bind fun I44 =>
      some (σ, I44, J, R)
      else none
    else
      if x3 ≤ (9 : Int32) then
        fX7_beginBody_b62 t σ I J R x1 x2 x3 x4
      else
        if kdx σ t = 8 then
        (fX7_arise σ I R t (8 : Int32) (96 : Int32)).bind fun I47 =>
        some (σ, I47, J, R)
        else none
  else
    fX7_beginBody_b62 t σ I J R x1 x2 x3 x4
theorem mX7_beginBody_b36 {σ : Shp} {I : Nat → Nat → Int32} {J : Nat → Nat → Int64} {R : Nat → Nat → Option Nat} {t : Nat} {σ9 : Shp} {I9 : Nat → Nat → Int32} {J9 : Nat → Nat → Int64} {R9 : Nat → Nat → Option Nat} {x1 : Int32} {x2 : Int32} {x3 : Int32} {x4 : Int32} (h : fX7_beginBody_b36 t σ I J R x1 x2 x3 x4 = some (σ9, I9, J9, R9)) : Lex σ σ9 := by
  unfold fX7_beginBody_b36 at h
  rcases itc h with ⟨c, h⟩ | ⟨c, h⟩
  · rcases itc h with ⟨c, h⟩ | ⟨c, h⟩
    · replace h := (gd h).2
      obtain ⟨I44, hc45, h⟩ := ob h
      cases h
      exact ⟨Nat.le_refl _, Nat.le_refl _⟩
    · rcases itc h with ⟨c, h⟩ | ⟨c, h⟩
      · exact mX7_beginBody_b62 h
      · replace h := (gd h).2
        obtain ⟨I47, hc48, h⟩ := ob h
        cases h
        exact ⟨Nat.le_refl _, Nat.le_refl _⟩
  · exact mX7_beginBody_b62 h
theorem wX7_beginBody_b36 {G : Gx} {l : Launch} {σ0 : Shp} {σ : Shp} {I : Nat → Nat → Int32} {J : Nat → Nat → Int64} {D : Nat → Nat → UInt64} {R : Nat → Nat → Option Nat} {t : Nat} {σ9 : Shp} {I9 : Nat → Nat → Int32} {J9 : Nat → Nat → Int64} {R9 : Nat → Nat → Option Nat} {x1 : Int32} {x2 : Int32} {x3 : Int32} {x4 : Int32} (h : fX7_beginBody_b36 t σ I J R x1 x2 x3 x4 = some (σ9, I9, J9, R9)) : WX7_beginBody G l σ0 (σ9, I9, J9, D, R9) none (σ, I, J, D, R) 36 [(0, vR (some t)), (1, vI x1), (2, vI x2), (3, vI x3), (4, vI x4)] [] := by
  unfold fX7_beginBody_b36 at h
  refine r_iload_n (pc := 36) dX7_beginBody_36 rfl 2 rfl ?_
  refine r_bipush (pc := 37) dX7_beginBody_37 kc_bipush_15 ?_
  refine r_icmp_ne (pc := 39) (tgt := 62) dX7_beginBody_39 rfl (fun c => ?_) (fun c => ?_)
  · have h := ie h c
    refine r_sub [0, 1, 2, 3, 4] rfl ?_
    exact wX7_beginBody_b62 h
  · have h := it h c
    refine r_iload_n (pc := 42) dX7_beginBody_42 rfl 3 rfl ?_
    refine r_iconst (pc := 43) dX7_beginBody_43 kc_iconst_1 ?_
    refine r_icmp_lt (pc := 44) (tgt := 53) dX7_beginBody_44 rfl (fun c => ?_) (fun c => ?_)
    · have h := it h c
      refine r_aload_n (pc := 53) dX7_beginBody_53 rfl 0 rfl ?_
      refine r_bipush (pc := 54) dX7_beginBody_54 kc_bipush_8 ?_
      refine r_bipush (pc := 56) dX7_beginBody_56 kc_bipush_96 ?_
      obtain ⟨g43, h⟩ := gd h
      obtain ⟨I44, hc45, h⟩ := ob h
      refine r_callV0 (pc := 58) (av := [vI (8 : Int32), vI (96 : Int32)]) (S := []) dX7_beginBody_58 (kX7_arise hc45) g43 rfl mkX7_182 mwX7_arise rfl ⟨Nat.le_of_ble_eq_true rfl, Nat.le_of_ble_eq_true rfl⟩ (Nat.le_of_ble_eq_true rfl) ⟨Nat.le_refl _, Nat.le_refl _⟩ (fun b => b) ?_
      cases h
      exact r_vret dX7_beginBody_61
    · have h := ie h c
      refine r_iload_n (pc := 47) dX7_beginBody_47 rfl 3 rfl ?_
      refine r_bipush (pc := 48) dX7_beginBody_48 kc_bipush_9 ?_
      refine r_icmp_le (pc := 50) (tgt := 62) dX7_beginBody_50 rfl (fun c => ?_) (fun c => ?_)
      · have h := it h c
        refine r_sub [0, 1, 2, 3, 4] rfl ?_
        exact wX7_beginBody_b62 h
      · have h := ie h c
        refine r_aload_n (pc := 53) dX7_beginBody_53 rfl 0 rfl ?_
        refine r_bipush (pc := 54) dX7_beginBody_54 kc_bipush_8 ?_
        refine r_bipush (pc := 56) dX7_beginBody_56 kc_bipush_96 ?_
        obtain ⟨g46, h⟩ := gd h
        obtain ⟨I47, hc48, h⟩ := ob h
        refine r_callV0 (pc := 58) (av := [vI (8 : Int32), vI (96 : Int32)]) (S := []) dX7_beginBody_58 (kX7_arise hc48) g46 rfl mkX7_182 mwX7_arise rfl ⟨Nat.le_of_ble_eq_true rfl, Nat.le_of_ble_eq_true rfl⟩ (Nat.le_of_ble_eq_true rfl) ⟨Nat.le_refl _, Nat.le_refl _⟩ (fun b => b) ?_
        cases h
        exact r_vret dX7_beginBody_61
def fX7_beginBody (σ : Shp) (I : Nat → Nat → Int32) (J : Nat → Nat → Int64) (R : Nat → Nat → Option Nat) (t : Nat) (x1 : Int32) (x2 : Int32) (x3 : Int32) (x4 : Int32) : Option ((Shp) × (Nat → Nat → Int32) × (Nat → Nat → Int64) × (Nat → Nat → Option Nat)) :=
  if x2 = (12 : Int32) then
    if x4 < 0 then
      if kdx σ t = 8 then
      (fX7_arise σ I R t (8 : Int32) (97 : Int32)).bind fun I50 =>
      some (σ, I50, J, R)
      else none
    else
      if kdx σ t = 8 then
      ((R t 3) : Option Nat).bind fun a53 =>
      if kdx σ a53 = 9 then
      ((R a53 0) : Option Nat).bind fun a55 =>
      if kdx σ a55 = 21 then
      if ¬ (x3 < 0 ∨ lnx σ a55 ≤ Int32.toNatClampNeg x3) then
      if (Int32.toInt64 x4) ≤ (J a55 (Int32.toNatClampNeg x3)) then
        fX7_beginBody_b36 t σ I J R x1 x2 x3 x4
      else
        (fX7_arise σ I R t (8 : Int32) (97 : Int32)).bind fun I58 =>
        some (σ, I58, J, R)
      else none
      else none
      else none
      else none
  else
    fX7_beginBody_b36 t σ I J R x1 x2 x3 x4
theorem mX7_beginBody {σ : Shp} {I : Nat → Nat → Int32} {J : Nat → Nat → Int64} {R : Nat → Nat → Option Nat} {t : Nat} {x1 : Int32} {x2 : Int32} {x3 : Int32} {x4 : Int32} {σ9 : Shp} {I9 : Nat → Nat → Int32} {J9 : Nat → Nat → Int64} {R9 : Nat → Nat → Option Nat} (h : fX7_beginBody σ I J R t x1 x2 x3 x4 = some (σ9, I9, J9, R9)) : Lex σ σ9 := by
  unfold fX7_beginBody at h
  rcases itc h with ⟨c, h⟩ | ⟨c, h⟩
  · rcases itc h with ⟨c, h⟩ | ⟨c, h⟩
    · replace h := (gd h).2
      obtain ⟨I50, hc51, h⟩ := ob h
      cases h
      exact ⟨Nat.le_refl _, Nat.le_refl _⟩
    · replace h := (gd h).2
      obtain ⟨a53, ha53, h⟩ := ob h
      replace h := (gd h).2
      obtain ⟨a55, ha55, h⟩ := ob h
      replace h := (gd h).2
      replace h := (gd h).2
      rcases itc h with ⟨c, h⟩ | ⟨c, h⟩
      · exact mX7_beginBody_b36 h
      · obtain ⟨I58, hc59, h⟩ := ob h
        cases h
        exact ⟨Nat.le_refl _, Nat.le_refl _⟩
  · exact mX7_beginBody_b36 h
theorem kX7_beginBody {G : Gx} {l : Launch} {σ : Shp} {I : Nat → Nat → Int32} {J : Nat → Nat → Int64} {D : Nat → Nat → UInt64} {R : Nat → Nat → Option Nat} {t : Nat} {x1 : Int32} {x2 : Int32} {x3 : Int32} {x4 : Int32} {σ9 : Shp} {I9 : Nat → Nat → Int32} {J9 : Nat → Nat → Int64} {R9 : Nat → Nat → Option Nat} (h : fX7_beginBody σ I J R t x1 x2 x3 x4 = some (σ9, I9, J9, R9)) : Con G l yX7_beginBody cX7_beginBody 5 none 4 85 [vR (some t), vI x1, vI x2, vI x3, vI x4] (σ, I, J, D, R) (σ9, I9, J9, D, R9) none := by
  unfold fX7_beginBody at h
  refine Con.mk (by decide +kernel) rfl (Nat.le_of_ble_eq_true rfl) ?_
  show WX7_beginBody G l σ (σ9, I9, J9, D, R9) none (σ, I, J, D, R) 0 _ []
  refine r_iload_n (pc := 0) dX7_beginBody_0 rfl 2 rfl ?_
  refine r_bipush (pc := 1) dX7_beginBody_1 kc_bipush_12 ?_
  refine r_icmp_ne (pc := 3) (tgt := 36) dX7_beginBody_3 rfl (fun c => ?_) (fun c => ?_)
  · have h := ie h c
    refine r_sub [0, 1, 2, 3, 4] rfl ?_
    exact wX7_beginBody_b36 h
  · have h := it h c
    refine r_iload (pc := 6) dX7_beginBody_6 4 rfl ?_
    refine r_if_lt (pc := 8) (tgt := 27) dX7_beginBody_8 rfl (fun c => ?_) (fun c => ?_)
    · have h := it h c
      refine r_aload_n (pc := 27) dX7_beginBody_27 rfl 0 rfl ?_
      refine r_bipush (pc := 28) dX7_beginBody_28 kc_bipush_8 ?_
      refine r_bipush (pc := 30) dX7_beginBody_30 kc_bipush_97 ?_
      obtain ⟨g49, h⟩ := gd h
      obtain ⟨I50, hc51, h⟩ := ob h
      refine r_callV0 (pc := 32) (av := [vI (8 : Int32), vI (97 : Int32)]) (S := []) dX7_beginBody_32 (kX7_arise hc51) g49 rfl mkX7_182 mwX7_arise rfl ⟨Nat.le_of_ble_eq_true rfl, Nat.le_of_ble_eq_true rfl⟩ (Nat.le_of_ble_eq_true rfl) ⟨Nat.le_refl _, Nat.le_refl _⟩ (fun b => b) ?_
      cases h
      exact r_vret dX7_beginBody_35
    · have h := ie h c
      refine r_aload_n (pc := 11) dX7_beginBody_11 rfl 0 rfl ?_
      obtain ⟨g52, h⟩ := gd h
      obtain ⟨a53, ha53, h⟩ := ob h
      refine r_getS (pc := 12) dX7_beginBody_12 fgX7_34 rfl g52 ha53 ?_
      obtain ⟨g54, h⟩ := gd h
      obtain ⟨a55, ha55, h⟩ := ob h
      refine r_getS (pc := 15) dX7_beginBody_15 fgX7_185 rfl g54 ha55 ?_
      refine r_iload_n (pc := 18) dX7_beginBody_18 rfl 3 rfl ?_
      obtain ⟨g56, h⟩ := gd h
      obtain ⟨g57, h⟩ := gd h
      refine r_laload (pc := 19) dX7_beginBody_19 g56 g57 ?_
      refine r_iload (pc := 20) dX7_beginBody_20 4 rfl ?_
      refine r_i2l (pc := 22) dX7_beginBody_22 ?_
      refine r_lcmp (pc := 23) dX7_beginBody_23 ?_
      refine r_ifge (pc := 24) (tgt := 36) dX7_beginBody_24 rfl (fun c => ?_) (fun c => ?_)
      · have h := it h (lgc_ge.mp c)
        refine r_sub [0, 1, 2, 3, 4] rfl ?_
        exact wX7_beginBody_b36 h
      · have h := ie h (fun q => c (lgc_ge.mpr q))
        refine r_aload_n (pc := 27) dX7_beginBody_27 rfl 0 rfl ?_
        refine r_bipush (pc := 28) dX7_beginBody_28 kc_bipush_8 ?_
        refine r_bipush (pc := 30) dX7_beginBody_30 kc_bipush_97 ?_
        obtain ⟨I58, hc59, h⟩ := ob h
        refine r_callV0 (pc := 32) (av := [vI (8 : Int32), vI (97 : Int32)]) (S := []) dX7_beginBody_32 (kX7_arise hc59) g52 rfl mkX7_182 mwX7_arise rfl ⟨Nat.le_of_ble_eq_true rfl, Nat.le_of_ble_eq_true rfl⟩ (Nat.le_of_ble_eq_true rfl) ⟨Nat.le_refl _, Nat.le_refl _⟩ (fun b => b) ?_
        cases h
        exact r_vret dX7_beginBody_35
