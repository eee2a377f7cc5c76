abbrev WX11_thirsts (G : Gx) (l : Launch) (σ0 : Shp) (X1 : Stt) (rv : Option SV) : Stt → Nat → List (Nat × SV) → List SV → Prop := Wm G l yX11_thirsts cX11_thirsts 1 (some .boolean) (fun _ => True) (rmx 0 0 σ0 X1.1) σ0 (Qmx G σ0 X1 rv)
def fX11_thirsts  (x0 : Int32) : (Int32) :=
  if x0 = 0 then
    (0 : Int32)
  else
    if x0 = (4 : Int32) then
      (0 : Int32)
    else
      (1 : Int32)
theorem zX11_thirsts  (x0 : Int32) : fX11_thirsts x0 = 0 ∨ fX11_thirsts x0 = 1 := by
  unfold fX11_thirsts
  repeat' split
  all_goals first | exact Or.inl rfl | exact Or.inr rfl
theorem kX11_thirsts {G : Gx} {l : Launch} {σ : Shp} {I : Nat → Nat → Int32} {J : Nat → Nat → Int64} {D : Nat → Nat → UInt64} {R : Nat → Nat → Option Nat} {x0 : Int32} {r9 : Int32} (h : fX11_thirsts x0 = r9) : Con G l yX11_thirsts cX11_thirsts 1 (some .boolean) 0 0 [vI x0] (σ, I, J, D, R) (σ, I, J, D, R) (some (vI r9)) := by
  unfold fX11_thirsts at h
  refine Con.mk (by decide) rfl (Nat.le_of_ble_eq_true rfl) ?_
  show WX11_thirsts G l σ (σ, I, J, D, R) (some (vI r9)) (σ, I, J, D, R) 0 _ []
  refine r_iload_n (pc := 0) dX11_thirsts_0 rfl 0 rfl ?_
  refine r_if_eq (pc := 1) (tgt := 13) dX11_thirsts_1 rfl (fun c => ?_) (fun c => ?_)
  · have h := it h c
    refine r_iconst (pc := 13) dX11_thirsts_13 kc_iconst_0 ?_
    subst h
    exact r_zret dX11_thirsts_14 (Or.inl rfl)
  · have h := ie h c
    refine r_iload_n (pc := 4) dX11_thirsts_4 rfl 0 rfl ?_
    refine r_iconst (pc := 5) dX11_thirsts_5 kc_iconst_4 ?_
    refine r_icmp_eq (pc := 6) (tgt := 13) dX11_thirsts_6 rfl (fun c => ?_) (fun c => ?_)
    · have h := it h c
      refine r_iconst (pc := 13) dX11_thirsts_13 kc_iconst_0 ?_
      subst h
      exact r_zret dX11_thirsts_14 (Or.inl rfl)
    · have h := ie h c
      refine r_iconst (pc := 9) dX11_thirsts_9 kc_iconst_1 ?_
      refine r_goto (pc := 10) (tgt := 14) dX11_thirsts_10 rfl ?_
      subst h
      exact r_zret dX11_thirsts_14 (Or.inr rfl)
abbrev WX11_isNumber (G : Gx) (l : Launch) (σ0 : Shp) (X1 : Stt) (rv : Option SV) : Stt → Nat → List (Nat × SV) → List SV → Prop := Wm G l yX11_isNumber cX11_isNumber 2 (some .boolean) (fun _ => True) (rmx 0 0 σ0 X1.1) σ0 (Qmx G σ0 X1 rv)
def fX11_isNumber  (x0 : Int64) : (Int32) :=
  if (9218868437227405312 : Int64) < (x0 &&& (9223372036854775807 : Int64)) then
    (0 : Int32)
  else
    (1 : Int32)
theorem zX11_isNumber  (x0 : Int64) : fX11_isNumber x0 = 0 ∨ fX11_isNumber x0 = 1 := by
  unfold fX11_isNumber
  repeat' split
  all_goals first | exact Or.inl rfl | exact Or.inr rfl
theorem kX11_isNumber {G : Gx} {l : Launch} {σ : Shp} {I : Nat → Nat → Int32} {J : Nat → Nat → Int64} {D : Nat → Nat → UInt64} {R : Nat → Nat → Option Nat} {x0 : Int64} {r9 : Int32} (h : fX11_isNumber x0 = r9) : Con G l yX11_isNumber cX11_isNumber 2 (some .boolean) 0 0 [vL x0] (σ, I, J, D, R) (σ, I, J, D, R) (some (vI r9)) := by
  unfold fX11_isNumber at h
  refine Con.mk (by decide) rfl (Nat.le_of_ble_eq_true rfl) ?_
  show WX11_isNumber G l σ (σ, I, J, D, R) (some (vI r9)) (σ, I, J, D, R) 0 _ []
  refine r_lload_n (pc := 0) dX11_isNumber_0 rfl 0 rfl ?_
  refine r_ldc2 (pc := 1) dX11_isNumber_1 clX11_534 ?_
  refine r_land (pc := 4) dX11_isNumber_4 ?_
  refine r_ldc2 (pc := 5) dX11_isNumber_5 clX11_536 ?_
  refine r_lcmp (pc := 8) dX11_isNumber_8 ?_
  refine r_ifgt (pc := 9) (tgt := 16) dX11_isNumber_9 rfl (fun c => ?_) (fun c => ?_)
  · have h := it h (lgc_gt.mp c)
    refine r_iconst (pc := 16) dX11_isNumber_16 kc_iconst_0 ?_
    subst h
    exact r_zret dX11_isNumber_17 (Or.inl rfl)
  · have h := ie h (fun q => c (lgc_gt.mpr q))
    refine r_iconst (pc := 12) dX11_isNumber_12 kc_iconst_1 ?_
    refine r_goto (pc := 13) (tgt := 17) dX11_isNumber_13 rfl ?_
    subst h
    exact r_zret dX11_isNumber_17 (Or.inr rfl)
abbrev WX11_cellOf (G : Gx) (l : Launch) (σ0 : Shp) (X1 : Stt) (rv : Option SV) : Stt → Nat → List (Nat × SV) → List SV → Prop := Wm G l yX11_cellOf cX11_cellOf 3 (some .long) (fun _ => True) (rmx 1 21 σ0 X1.1) σ0 (Qmx G σ0 X1 rv)
def fX11_cellOf  (x0 : Int32) (x1 : Int64) : (Int64) :=
  if x0 = (0 : Int32) then
    (x1 &&& (1 : Int64))
  else
  if x0 = (1 : Int32) then
    (Int32.toInt64 ((Int32.toInt8 (Int64.toInt32 x1)).toInt32))
  else
  if x0 = (2 : Int32) then
    (x1 &&& (65535 : Int64))
  else
  if x0 = (3 : Int32) then
    (Int32.toInt64 ((Int32.toInt16 (Int64.toInt32 x1)).toInt32))
  else
  if x0 = (4 : Int32) then
    (Int32.toInt64 (Int64.toInt32 x1))
  else
  if x0 = (5 : Int32) then
    x1
  else
  if x0 = (6 : Int32) then
    if (x1 &&& (2147483647 : Int64)) ≤ (2139095040 : Int64) then
      (Int32.toInt64 (Int64.toInt32 x1))
    else
      (2143289344 : Int64)
  else
  if x0 = (7 : Int32) then
    if (fX11_isNumber x1) = 0 then
      (9221120237041090560 : Int64)
    else
      x1
  else
  x1
theorem kX11_cellOf {G : Gx} {l : Launch} {σ : Shp} {I : Nat → Nat → Int32} {J : Nat → Nat → Int64} {D : Nat → Nat → UInt64} {R : Nat → Nat → Option Nat} {x0 : Int32} {x1 : Int64} {r9 : Int64} (h : fX11_cellOf x0 x1 = r9) : Con G l yX11_cellOf cX11_cellOf 3 (some .long) 1 21 [vI x0, vL x1] (σ, I, J, D, R) (σ, I, J, D, R) (some (vL r9)) := by
  unfold fX11_cellOf at h
  refine Con.mk (by decide) rfl (Nat.le_of_ble_eq_true rfl) ?_
  show WX11_cellOf G l σ (σ, I, J, D, R) (some (vL r9)) (σ, I, J, D, R) 0 _ []
  refine r_iload_n (pc := 0) dX11_cellOf_0 rfl 0 rfl ?_
  rcases itc h with ⟨c1, h⟩ | ⟨c1, h⟩
  · refine r_tsIn (pc := 1) (tgt := 48) dX11_cellOf_1 (by rw [c1]; decide) (by rw [c1]; decide) (by rw [c1]; rfl) rfl ?_
    refine r_lload_n (pc := 48) dX11_cellOf_48 rfl 1 rfl ?_
    refine r_lconst (pc := 49) dX11_cellOf_49 kc_lconst_1 ?_
    refine r_land (pc := 50) dX11_cellOf_50 ?_
    subst h
    exact r_lret dX11_cellOf_51
  · rcases itc h with ⟨c2, h⟩ | ⟨c2, h⟩
    · refine r_tsIn (pc := 1) (tgt := 52) dX11_cellOf_1 (by rw [c2]; decide) (by rw [c2]; decide) (by rw [c2]; rfl) rfl ?_
      refine r_lload_n (pc := 52) dX11_cellOf_52 rfl 1 rfl ?_
      refine r_l2i (pc := 53) dX11_cellOf_53 ?_
      refine r_i2b (pc := 54) dX11_cellOf_54 ?_
      refine r_i2l (pc := 55) dX11_cellOf_55 ?_
      subst h
      exact r_lret dX11_cellOf_56
    · rcases itc h with ⟨c3, h⟩ | ⟨c3, h⟩
      · refine r_tsIn (pc := 1) (tgt := 57) dX11_cellOf_1 (by rw [c3]; decide) (by rw [c3]; decide) (by rw [c3]; rfl) rfl ?_
        refine r_lload_n (pc := 57) dX11_cellOf_57 rfl 1 rfl ?_
        refine r_ldc2 (pc := 58) dX11_cellOf_58 clX11_524 ?_
        refine r_land (pc := 61) dX11_cellOf_61 ?_
        subst h
        exact r_lret dX11_cellOf_62
      · rcases itc h with ⟨c4, h⟩ | ⟨c4, h⟩
        · refine r_tsIn (pc := 1) (tgt := 63) dX11_cellOf_1 (by rw [c4]; decide) (by rw [c4]; decide) (by rw [c4]; rfl) rfl ?_
          refine r_lload_n (pc := 63) dX11_cellOf_63 rfl 1 rfl ?_
          refine r_l2i (pc := 64) dX11_cellOf_64 ?_
          refine r_i2s (pc := 65) dX11_cellOf_65 ?_
          refine r_i2l (pc := 66) dX11_cellOf_66 ?_
          subst h
          exact r_lret dX11_cellOf_67
        · rcases itc h with ⟨c5, h⟩ | ⟨c5, h⟩
          · refine r_tsIn (pc := 1) (tgt := 68) dX11_cellOf_1 (by rw [c5]; decide) (by rw [c5]; decide) (by rw [c5]; rfl) rfl ?_
            refine r_lload_n (pc := 68) dX11_cellOf_68 rfl 1 rfl ?_
            refine r_l2i (pc := 69) dX11_cellOf_69 ?_
            refine r_i2l (pc := 70) dX11_cellOf_70 ?_
            subst h
            exact r_lret dX11_cellOf_71
          · rcases itc h with ⟨c6, h⟩ | ⟨c6, h⟩
            · refine r_tsIn (pc := 1) (tgt := 109) dX11_cellOf_1 (by rw [c6]; decide) (by rw [c6]; decide) (by rw [c6]; rfl) rfl ?_
              refine r_lload_n (pc := 109) dX11_cellOf_109 rfl 1 rfl ?_
              subst h
              exact r_lret dX11_cellOf_110
            · rcases itc h with ⟨c7, h⟩ | ⟨c7, h⟩
              · refine r_tsIn (pc := 1) (tgt := 72) dX11_cellOf_1 (by rw [c7]; decide) (by rw [c7]; decide) (by rw [c7]; rfl) rfl ?_
                refine r_lload_n (pc := 72) dX11_cellOf_72 rfl 1 rfl ?_
                refine r_ldc2 (pc := 73) dX11_cellOf_73 clX11_526 ?_
                refine r_land (pc := 76) dX11_cellOf_76 ?_
                refine r_ldc2 (pc := 77) dX11_cellOf_77 clX11_528 ?_
                refine r_lcmp (pc := 80) dX11_cellOf_80 ?_
                refine r_if_le (pc := 81) (tgt := 90) dX11_cellOf_81 rfl (fun c => ?_) (fun c => ?_)
                · have h := it h (lgc_le.mp c)
                  refine r_lload_n (pc := 90) dX11_cellOf_90 rfl 1 rfl ?_
                  refine r_l2i (pc := 91) dX11_cellOf_91 ?_
                  refine r_i2l (pc := 92) dX11_cellOf_92 ?_
                  subst h
                  exact r_lret dX11_cellOf_93
                · have h := ie h (fun q => c (lgc_le.mpr q))
                  refine r_ldc2 (pc := 84) dX11_cellOf_84 clX11_530 ?_
                  refine r_goto (pc := 87) (tgt := 93) dX11_cellOf_87 rfl ?_
                  subst h
                  exact r_lret dX11_cellOf_93
              · rcases itc h with ⟨c8, h⟩ | ⟨c8, h⟩
                · refine r_tsIn (pc := 1) (tgt := 94) dX11_cellOf_1 (by rw [c8]; decide) (by rw [c8]; decide) (by rw [c8]; rfl) rfl ?_
                  refine r_lload_n (pc := 94) dX11_cellOf_94 rfl 1 rfl ?_
                  refine r_callS1 (pc := 95) (av := [vL x1]) (S := []) dX11_cellOf_95 (kX11_isNumber rfl) mkX11_349 mwX11_isNumber rfl ⟨Nat.le_of_ble_eq_true rfl, Nat.le_of_ble_eq_true rfl⟩ (Nat.le_of_ble_eq_true rfl) ⟨Nat.le_refl _, Nat.le_refl _⟩ (fun b => b) ?_
                  refine r_if_eq (pc := 98) (tgt := 105) dX11_cellOf_98 rfl (fun c => ?_) (fun c => ?_)
                  · have h := it h c
                    refine r_ldc2 (pc := 105) dX11_cellOf_105 clX11_420 ?_
                    subst h
                    exact r_lret dX11_cellOf_108
                  · have h := ie h c
                    refine r_lload_n (pc := 101) dX11_cellOf_101 rfl 1 rfl ?_
                    refine r_goto (pc := 102) (tgt := 108) dX11_cellOf_102 rfl ?_
                    subst h
                    exact r_lret dX11_cellOf_108
                · refine r_tsOut (pc := 1) (tgt := 109) dX11_cellOf_1 (by have ec1 := i32n c1 (k := 0) rfl; have ec2 := i32n c2 (k := 1) rfl; have ec3 := i32n c3 (k := 2) rfl; have ec4 := i32n c4 (k := 3) rfl; have ec5 := i32n c5 (k := 4) rfl; have ec6 := i32n c6 (k := 5) rfl; have ec7 := i32n c7 (k := 6) rfl; have ec8 := i32n c8 (k := 7) rfl; omega) rfl ?_
                  refine r_lload_n (pc := 109) dX11_cellOf_109 rfl 1 rfl ?_
                  subst h
                  exact r_lret dX11_cellOf_110
abbrev WX11_isBin (G : Gx) (l : Launch) (σ0 : Shp) (X1 : Stt) (rv : Option SV) : Stt → Nat → List (Nat × SV) → List SV → Prop := Wm G l yX11_isBin cX11_isBin 1 (some .boolean) (fun _ => True) (rmx 0 0 σ0 X1.1) σ0 (Qmx G σ0 X1 rv)
def fX11_isBin  (x0 : Int32) : (Int32) :=
  if x0 < 0 then
    (0 : Int32)
  else
    if (16 : Int32) ≤ x0 then
      (0 : Int32)
    else
      (1 : Int32)
theorem zX11_isBin  (x0 : Int32) : fX11_isBin x0 = 0 ∨ fX11_isBin x0 = 1 := by
  unfold fX11_isBin
  repeat' split
  all_goals first | exact Or.inl rfl | exact Or.inr rfl
theorem kX11_isBin {G : Gx} {l : Launch} {σ : Shp} {I : Nat → Nat → Int32} {J : Nat → Nat → Int64} {D : Nat → Nat → UInt64} {R : Nat → Nat → Option Nat} {x0 : Int32} {r9 : Int32} (h : fX11_isBin x0 = r9) : Con G l yX11_isBin cX11_isBin 1 (some .boolean) 0 0 [vI x0] (σ, I, J, D, R) (σ, I, J, D, R) (some (vI r9)) := by
  unfold fX11_isBin at h
  refine Con.mk (by decide) rfl (Nat.le_of_ble_eq_true rfl) ?_
  show WX11_isBin G l σ (σ, I, J, D, R) (some (vI r9)) (σ, I, J, D, R) 0 _ []
  refine r_iload_n (pc := 0) dX11_isBin_0 rfl 0 rfl ?_
  refine r_if_lt (pc := 1) (tgt := 14) dX11_isBin_1 rfl (fun c => ?_) (fun c => ?_)
  · have h := it h c
    refine r_iconst (pc := 14) dX11_isBin_14 kc_iconst_0 ?_
    subst h
    exact r_zret dX11_isBin_15 (Or.inl rfl)
  · have h := ie h c
    refine r_iload_n (pc := 4) dX11_isBin_4 rfl 0 rfl ?_
    refine r_bipush (pc := 5) dX11_isBin_5 kc_bipush_16 ?_
    refine r_icmp_ge (pc := 7) (tgt := 14) dX11_isBin_7 rfl (fun c => ?_) (fun c => ?_)
    · have h := it h c
      refine r_iconst (pc := 14) dX11_isBin_14 kc_iconst_0 ?_
      subst h
      exact r_zret dX11_isBin_15 (Or.inl rfl)
    · have h := ie h c
      refine r_iconst (pc := 10) dX11_isBin_10 kc_iconst_1 ?_
      refine r_goto (pc := 11) (tgt := 15) dX11_isBin_11 rfl ?_
      subst h
      exact r_zret dX11_isBin_15 (Or.inr rfl)
abbrev WX11_goesFor (G : Gx) (l : Launch) (σ0 : Shp) (X1 : Stt) (rv : Option SV) : Stt → Nat → List (Nat × SV) → List SV → Prop := Wm G l yX11_goesFor cX11_goesFor 2 (some .boolean) (fun _ => True) (rmx 0 0 σ0 X1.1) σ0 (Qmx G σ0 X1 rv)
def fX11_goesFor (σ : Shp) (I : Nat → Nat → Int32) (x0 : Option Nat) (x1 : Int32) : Option ((Int32)) :=
  onl x0
    (
      some (1 : Int32))
    (fun a1 =>
      if kdx σ a1 = 11 then
      if (I a1 0) = x1 then
        some (1 : Int32)
      else
        some (0 : Int32)
      else none)
theorem kX11_goesFor {G : Gx} {l : Launch} {σ : Shp} {I : Nat → Nat → Int32} {J : Nat → Nat → Int64} {D : Nat → Nat → UInt64} {R : Nat → Nat → Option Nat} {x0 : Option Nat} {x1 : Int32} {r9 : Int32} (h : fX11_goesFor σ I x0 x1 = some r9) : Con G l yX11_goesFor cX11_goesFor 2 (some .boolean) 0 0 [vR x0, vI x1] (σ, I, J, D, R) (σ, I, J, D, R) (some (vI r9)) := by
  unfold fX11_goesFor at h
  refine Con.mk (by decide) rfl (Nat.le_of_ble_eq_true rfl) ?_
  show WX11_goesFor G l σ (σ, I, J, D, R) (some (vI r9)) (σ, I, J, D, R) 0 _ []
  refine r_aload_n (pc := 0) dX11_goesFor_0 rfl 0 rfl ?_
  rcases onl_c h with ⟨ea1, h⟩ | ⟨a1, ha1, h⟩
  · refine r_ref0n ea1 ?_
    refine r_ifnull_n (pc := 1) (tgt := 12) dX11_goesFor_1 rfl ?_
    refine r_iconst (pc := 12) dX11_goesFor_12 kc_iconst_1 ?_
    refine r_goto (pc := 13) (tgt := 17) dX11_goesFor_13 rfl ?_
    cases h
    exact r_zret dX11_goesFor_17 (Or.inr rfl)
  · refine r_ref0 ha1 ?_
    refine r_ifnull_s (pc := 1) dX11_goesFor_1 ?_
    refine r_aload_n (pc := 4) dX11_goesFor_4 rfl 0 rfl ?_
    refine r_ref0 ha1 ?_
    obtain ⟨g2, h⟩ := gd h
    refine r_getI (pc := 5) dX11_goesFor_5 fgX11_113 rfl g2 ?_
    refine r_iload_n (pc := 8) dX11_goesFor_8 rfl 1 rfl ?_
    refine r_icmp_ne (pc := 9) (tgt := 16) dX11_goesFor_9 rfl (fun c => ?_) (fun c => ?_)
    · have h := ie h c
      refine r_iconst (pc := 16) dX11_goesFor_16 kc_iconst_0 ?_
      cases h
      exact r_zret dX11_goesFor_17 (Or.inl rfl)
    · have h := it h c
      refine r_iconst (pc := 12) dX11_goesFor_12 kc_iconst_1 ?_
      refine r_goto (pc := 13) (tgt := 17) dX11_goesFor_13 rfl ?_
      cases h
      exact r_zret dX11_goesFor_17 (Or.inr rfl)
abbrev WX11_takenFault (G : Gx) (l : Launch) (σ0 : Shp) (X1 : Stt) (rv : Option SV) : Stt → Nat → List (Nat × SV) → List SV → Prop := Wm G l yX11_takenFault cX11_takenFault 2 (some .int) (fun _ => True) (rmx 1 21 σ0 X1.1) σ0 (Qmx G σ0 X1 rv)
def fX11_takenFault (σ : Shp) (I : Nat → Nat → Int32) (x0 : Option Nat) (x1 : Int32) : Option ((Int32)) :=
  (fX11_goesFor σ I x0 x1).bind fun r1 =>
  if r1 = 0 then
    some (4 : Int32)
  else
    onl x0
      (
        some (1 : Int32))
      (fun a3 =>
        some (0 : Int32))
theorem kX11_takenFault {G : Gx} {l : Launch} {σ : Shp} {I : Nat → Nat → Int32} {J : Nat → Nat → Int64} {D : Nat → Nat → UInt64} {R : Nat → Nat → Option Nat} {x0 : Option Nat} {x1 : Int32} {r9 : Int32} (h : fX11_takenFault σ I x0 x1 = some r9) : Con G l yX11_takenFault cX11_takenFault 2 (some .int) 1 21 [vR x0, vI x1] (σ, I, J, D, R) (σ, I, J, D, R) (some (vI r9)) := by
  unfold fX11_takenFault at h
  refine Con.mk (by decide) rfl (Nat.le_of_ble_eq_true rfl) ?_
  show WX11_takenFault G l σ (σ, I, J, D, R) (some (vI r9)) (σ, I, J, D, R) 0 _ []
  refine r_aload_n (pc := 0) dX11_takenFault_0 rfl 0 rfl ?_
  refine r_iload_n (pc := 1) dX11_takenFault_1 rfl 1 rfl ?_
  obtain ⟨r1, hc2, h⟩ := ob h
  refine r_callS1 (pc := 2) (av := [vR x0, vI x1]) (S := []) dX11_takenFault_2 (kX11_goesFor hc2) mkX11_164 mwX11_goesFor rfl ⟨Nat.le_of_ble_eq_true rfl, Nat.le_of_ble_eq_true rfl⟩ (Nat.le_of_ble_eq_true rfl) ⟨Nat.le_refl _, Nat.le_refl _⟩ (fun b => b) ?_
  refine r_ifne (pc := 5) (tgt := 10) dX11_takenFault_5 rfl (fun c => ?_) (fun c => ?_)
  · have h := ie h c
    refine r_aload_n (pc := 10) dX11_takenFault_10 rfl 0 rfl ?_
    rcases onl_c h with ⟨ea3, h⟩ | ⟨a3, ha3, h⟩
    · refine r_ref0n ea3 ?_
      refine r_ifnonnull_n (pc := 11) dX11_takenFault_11 ?_
      refine r_iconst (pc := 14) dX11_takenFault_14 kc_iconst_1 ?_
      refine r_goto (pc := 15) (tgt := 19) dX11_takenFault_15 rfl ?_
      cases h
      exact r_iret dX11_takenFault_19
    · refine r_ref0 ha3 ?_
      refine r_ifnonnull_s (pc := 11) (tgt := 18) dX11_takenFault_11 rfl ?_
      refine r_iconst (pc := 18) dX11_takenFault_18 kc_iconst_0 ?_
      cases h
      exact r_iret dX11_takenFault_19
  · have h := it h c
    refine r_iconst (pc := 8) dX11_takenFault_8 kc_iconst_4 ?_
    cases h
    exact r_iret dX11_takenFault_9
abbrev WX11_cellFault (G : Gx) (l : Launch) (σ0 : Shp) (X1 : Stt) (rv : Option SV) : Stt → Nat → List (Nat × SV) → List SV → Prop := Wm G l yX11_cellFault cX11_cellFault 4 (some .int) (fun _ => True) (rmx 2 42 σ0 X1.1) σ0 (Qmx G σ0 X1 rv)
def fX11_cellFault (σ : Shp) (I : Nat → Nat → Int32) (R : Nat → Nat → Option Nat) (x0 : Option Nat) (x1 : Int32) (x2 : Int32) : Option ((Int32)) :=
  (fX11_takenFault σ I x0 x1).bind fun r1 =>
  if r1 = 0 then
    onl x0
      (
        some r1)
      (fun a3 =>
        if x2 < 0 then
          some (2 : Int32)
        else
          if kdx σ a3 = 11 then
          ((R a3 1) : Option Nat).bind fun a5 =>
          if kdx σ a5 = 21 then
          if x2 < (Int32.ofNat (lnx σ a5)) then
            some (0 : Int32)
          else
            some (2 : Int32)
          else none
          else none)
  else
    some r1
theorem kX11_cellFault {G : Gx} {l : Launch} {σ : Shp} {I : Nat → Nat → Int32} {J : Nat → Nat → Int64} {D : Nat → Nat → UInt64} {R : Nat → Nat → Option Nat} {x0 : Option Nat} {x1 : Int32} {x2 : Int32} {r9 : Int32} (h : fX11_cellFault σ I R x0 x1 x2 = some r9) : Con G l yX11_cellFault cX11_cellFault 4 (some .int) 2 42 [vR x0, vI x1, vI x2] (σ, I, J, D, R) (σ, I, J, D, R) (some (vI r9)) := by
  unfold fX11_cellFault at h
  refine Con.mk (by decide) rfl (Nat.le_of_ble_eq_true rfl) ?_
  show WX11_cellFault G l σ (σ, I, J, D, R) (some (vI r9)) (σ, I, J, D, R) 0 _ []
  refine r_aload_n (pc := 0) dX11_cellFault_0 rfl 0 rfl ?_
  refine r_iload_n (pc := 1) dX11_cellFault_1 rfl 1 rfl ?_
  obtain ⟨r1, hc2, h⟩ := ob h
  refine r_callS1 (pc := 2) (av := [vR x0, vI x1]) (S := []) dX11_cellFault_2 (kX11_takenFault hc2) mkX11_267 mwX11_takenFault rfl ⟨Nat.le_of_ble_eq_true rfl, Nat.le_of_ble_eq_true rfl⟩ (Nat.le_of_ble_eq_true rfl) ⟨Nat.le_refl _, Nat.le_refl _⟩ (fun b => b) ?_
  refine r_istore_n (pc := 5) (L' := [(3, vI r1), (0, vR x0), (1, vI x1), (2, vI x2)]) dX11_cellFault_5 rfl (by decide) rfl ?_
  refine r_iload_n (pc := 6) dX11_cellFault_6 rfl 0 rfl ?_
  refine r_ifne (pc := 7) (tgt := 14) dX11_cellFault_7 rfl (fun c => ?_) (fun c => ?_)
  · have h := ie h c
    refine r_iload_n (pc := 14) dX11_cellFault_14 rfl 0 rfl ?_
    cases h
    exact r_iret dX11_cellFault_15
  · have h := it h c
    refine r_aload_n (pc := 10) dX11_cellFault_10 rfl 1 rfl ?_
    rcases onl_c h with ⟨ea3, h⟩ | ⟨a3, ha3, h⟩
    · refine r_ref0n ea3 ?_
      refine r_ifnonnull_n (pc := 11) dX11_cellFault_11 ?_
      refine r_iload_n (pc := 14) dX11_cellFault_14 rfl 0 rfl ?_
      cases h
      exact r_iret dX11_cellFault_15
    · refine r_ref0 ha3 ?_
      refine r_ifnonnull_s (pc := 11) (tgt := 16) dX11_cellFault_11 rfl ?_
      refine r_iload_n (pc := 16) dX11_cellFault_16 rfl 3 rfl ?_
      refine r_if_lt (pc := 17) (tgt := 29) dX11_cellFault_17 rfl (fun c => ?_) (fun c => ?_)
      · have h := it h c
        refine r_iconst (pc := 29) dX11_cellFault_29 kc_iconst_2 ?_
        refine r_goto (pc := 30) (tgt := 34) dX11_cellFault_30 rfl ?_
        cases h
        exact r_iret dX11_cellFault_34
      · have h := ie h c
        refine r_iload_n (pc := 20) dX11_cellFault_20 rfl 3 rfl ?_
        refine r_aload_n (pc := 21) dX11_cellFault_21 rfl 1 rfl ?_
        refine r_ref0 ha3 ?_
        obtain ⟨g4, h⟩ := gd h
        obtain ⟨a5, ha5, h⟩ := ob h
        refine r_getS (pc := 22) dX11_cellFault_22 fgX11_134 rfl g4 ha5 ?_
        obtain ⟨g6, h⟩ := gd h
        refine r_alen (pc := 25) dX11_cellFault_25 g6 (by decide) ?_
        refine r_icmp_lt (pc := 26) (tgt := 33) dX11_cellFault_26 rfl (fun c => ?_) (fun c => ?_)
        · have h := it h c
          refine r_iconst (pc := 33) dX11_cellFault_33 kc_iconst_0 ?_
          cases h
          exact r_iret dX11_cellFault_34
        · have h := ie h c
          refine r_iconst (pc := 29) dX11_cellFault_29 kc_iconst_2 ?_
          refine r_goto (pc := 30) (tgt := 34) dX11_cellFault_30 rfl ?_
          cases h
          exact r_iret dX11_cellFault_34
abbrev WX11_fail (G : Gx) (l : Launch) (σ0 : Shp) (X1 : Stt) (rv : Option SV) : Stt → Nat → List (Nat × SV) → List SV → Prop := Wm G l yX11_fail cX11_fail 2 (some .int) (fun _ => True) (rmx 0 0 σ0 X1.1) σ0 (Qmx G σ0 X1 rv)
def fX11_fail (σ : Shp) (I : Nat → Nat → Int32) (t : Nat) (x1 : Int32) : Option ((Nat → Nat → Int32) × (Int32)) :=
  if kdx σ t = 12 then
  let I2 := u2 I t 13 ((I t 13) + (1 : Int32))
  let I3 := u2 I2 t 14 x1
  some (I3, ((-10 : Int32) - x1))
  else none
theorem kX11_fail {G : Gx} {l : Launch} {σ : Shp} {I : Nat → Nat → Int32} {J : Nat → Nat → Int64} {D : Nat → Nat → UInt64} {R : Nat → Nat → Option Nat} {t : Nat} {x1 : Int32} {I9 : Nat → Nat → Int32} {r9 : Int32} (h : fX11_fail σ I t x1 = some (I9, r9)) : Con G l yX11_fail cX11_fail 2 (some .int) 0 0 [vR (some t), vI x1] (σ, I, J, D, R) (σ, I9, J, D, R) (some (vI r9)) := by
  unfold fX11_fail at h
  refine Con.mk (by decide) rfl (Nat.le_of_ble_eq_true rfl) ?_
  show WX11_fail G l σ (σ, I9, J, D, R) (some (vI r9)) (σ, I, J, D, R) 0 _ []
  refine r_aload_n (pc := 0) dX11_fail_0 rfl 0 rfl ?_
  refine r_dup (pc := 1) dX11_fail_1 rfl ?_
  obtain ⟨g1, h⟩ := gd h
  refine r_getI (pc := 2) dX11_fail_2 fgX11_295 rfl g1 ?_
  refine r_iconst (pc := 5) dX11_fail_5 kc_iconst_1 ?_
  refine r_iadd (pc := 6) dX11_fail_6 ?_
  refine r_putI (pc := 7) dX11_fail_7 fwX11_295 rfl g1 ?_
  refine r_aload_n (pc := 10) dX11_fail_10 rfl 0 rfl ?_
  refine r_iload_n (pc := 11) dX11_fail_11 rfl 1 rfl ?_
  refine r_putI (pc := 12) dX11_fail_12 fwX11_304 rfl g1 ?_
  refine r_bipush (pc := 15) dX11_fail_15 kc_bipush_m10 ?_
  refine r_iload_n (pc := 17) dX11_fail_17 rfl 1 rfl ?_
  refine r_isub (pc := 18) dX11_fail_18 ?_
  cases h
  exact r_iret dX11_fail_19
abbrev WX11_isLane (G : Gx) (l : Launch) (σ0 : Shp) (X1 : Stt) (rv : Option SV) : Stt → Nat → List (Nat × SV) → List SV → Prop := Wm G l yX11_isLane cX11_isLane 1 (some .boolean) (fun _ => True) (rmx 0 0 σ0 X1.1) σ0 (Qmx G σ0 X1 rv)
def fX11_isLane  (x0 : Int32) : (Int32) :=
  if x0 < 0 then
    (0 : Int32)
  else
    if (7 : Int32) < x0 then
      (0 : Int32)
    else
      (1 : Int32)
theorem zX11_isLane  (x0 : Int32) : fX11_isLane x0 = 0 ∨ fX11_isLane x0 = 1 := by
  unfold fX11_isLane
  repeat' split
  all_goals first | exact Or.inl rfl | exact Or.inr rfl
theorem kX11_isLane {G : Gx} {l : Launch} {σ : Shp} {I : Nat → Nat → Int32} {J : Nat → Nat → Int64} {D : Nat → Nat → UInt64} {R : Nat → Nat → Option Nat} {x0 : Int32} {r9 : Int32} (h : fX11_isLane x0 = r9) : Con G l yX11_isLane cX11_isLane 1 (some .boolean) 0 0 [vI x0] (σ, I, J, D, R) (σ, I, J, D, R) (some (vI r9)) := by
  unfold fX11_isLane at h
  refine Con.mk (by decide) rfl (Nat.le_of_ble_eq_true rfl) ?_
  show WX11_isLane G l σ (σ, I, J, D, R) (some (vI r9)) (σ, I, J, D, R) 0 _ []
  refine r_iload_n (pc := 0) dX11_isLane_0 rfl 0 rfl ?_
  refine r_if_lt (pc := 1) (tgt := 14) dX11_isLane_1 rfl (fun c => ?_) (fun c => ?_)
  · have h := it h c
    refine r_iconst (pc := 14) dX11_isLane_14 kc_iconst_0 ?_
    subst h
    exact r_zret dX11_isLane_15 (Or.inl rfl)
  · have h := ie h c
    refine r_iload_n (pc := 4) dX11_isLane_4 rfl 0 rfl ?_
    refine r_bipush (pc := 5) dX11_isLane_5 kc_bipush_7 ?_
    refine r_icmp_gt (pc := 7) (tgt := 14) dX11_isLane_7 rfl (fun c => ?_) (fun c => ?_)
    · have h := it h c
      refine r_iconst (pc := 14) dX11_isLane_14 kc_iconst_0 ?_
      subst h
      exact r_zret dX11_isLane_15 (Or.inl rfl)
    · have h := ie h c
      refine r_iconst (pc := 10) dX11_isLane_10 kc_iconst_1 ?_
      refine r_goto (pc := 11) (tgt := 15) dX11_isLane_11 rfl ?_
      subst h
      exact r_zret dX11_isLane_15 (Or.inr rfl)
abbrev WX11_trayTakes (G : Gx) (l : Launch) (σ0 : Shp) (X1 : Stt) (rv : Option SV) : Stt → Nat → List (Nat × SV) → List SV → Prop := Wm G l yX11_trayTakes cX11_trayTakes 2 (some .boolean) (fun _ => True) (rmx 1 20 σ0 X1.1) σ0 (Qmx G σ0 X1 rv)
def fX11_trayTakes  (x0 : Int32) (x1 : Int32) : (Int32) :=
  if x0 = (12 : Int32) then
    if (3 : Int32) < x1 then
      (0 : Int32)
    else
      (1 : Int32)
  else
  if x0 = (13 : Int32) then
    if x1 = (1 : Int32) then
      (1 : Int32)
    else
      if x1 = (2 : Int32) then
        (1 : Int32)
      else
        (0 : Int32)
  else
  if x0 = (14 : Int32) then
    if x1 = 0 then
      (1 : Int32)
    else
      if x1 = (3 : Int32) then
        (1 : Int32)
      else
        (0 : Int32)
  else
  if x0 = (15 : Int32) then
    (fX11_thirsts x1)
  else
  (0 : Int32)
theorem zX11_trayTakes  (x0 : Int32) (x1 : Int32) : fX11_trayTakes x0 x1 = 0 ∨ fX11_trayTakes x0 x1 = 1 := by
  unfold fX11_trayTakes
  repeat' split
  all_goals first | exact Or.inl rfl | exact Or.inr rfl | exact zX11_thirsts _
theorem kX11_trayTakes {G : Gx} {l : Launch} {σ : Shp} {I : Nat → Nat → Int32} {J : Nat → Nat → Int64} {D : Nat → Nat → UInt64} {R : Nat → Nat → Option Nat} {x0 : Int32} {x1 : Int32} {r9 : Int32} (h : fX11_trayTakes x0 x1 = r9) : Con G l yX11_trayTakes cX11_trayTakes 2 (some .boolean) 1 20 [vI x0, vI x1] (σ, I, J, D, R) (σ, I, J, D, R) (some (vI r9)) := by
  unfold fX11_trayTakes at h
  refine Con.mk (by decide) rfl (Nat.le_of_ble_eq_true rfl) ?_
  show WX11_trayTakes G l σ (σ, I, J, D, R) (some (vI r9)) (σ, I, J, D, R) 0 _ []
  refine r_iload_n (pc := 0) dX11_trayTakes_0 rfl 0 rfl ?_
  rcases itc h with ⟨c1, h⟩ | ⟨c1, h⟩
  · refine r_tsIn (pc := 1) (tgt := 32) dX11_trayTakes_1 (by rw [c1]; decide) (by rw [c1]; decide) (by rw [c1]; rfl) rfl ?_
    refine r_iload_n (pc := 32) dX11_trayTakes_32 rfl 1 rfl ?_
    refine r_iconst (pc := 33) dX11_trayTakes_33 kc_iconst_3 ?_
    refine r_icmp_gt (pc := 34) (tgt := 41) dX11_trayTakes_34 rfl (fun c => ?_) (fun c => ?_)
    · have h := it h c
      refine r_iconst (pc := 41) dX11_trayTakes_41 kc_iconst_0 ?_
      subst h
      exact r_zret dX11_trayTakes_42 (Or.inl rfl)
    · have h := ie h c
      refine r_iconst (pc := 37) dX11_trayTakes_37 kc_iconst_1 ?_
      refine r_goto (pc := 38) (tgt := 42) dX11_trayTakes_38 rfl ?_
      subst h
      exact r_zret dX11_trayTakes_42 (Or.inr rfl)
  · rcases itc h with ⟨c2, h⟩ | ⟨c2, h⟩
    · refine r_tsIn (pc := 1) (tgt := 43) dX11_trayTakes_1 (by rw [c2]; decide) (by rw [c2]; decide) (by rw [c2]; rfl) rfl ?_
      refine r_iload_n (pc := 43) dX11_trayTakes_43 rfl 1 rfl ?_
      refine r_iconst (pc := 44) dX11_trayTakes_44 kc_iconst_1 ?_
      refine r_icmp_eq (pc := 45) (tgt := 53) dX11_trayTakes_45 rfl (fun c => ?_) (fun c => ?_)
      · have h := it h c
        refine r_iconst (pc := 53) dX11_trayTakes_53 kc_iconst_1 ?_
        refine r_goto (pc := 54) (tgt := 58) dX11_trayTakes_54 rfl ?_
        subst h
        exact r_zret dX11_trayTakes_58 (Or.inr rfl)
      · have h := ie h c
        refine r_iload_n (pc := 48) dX11_trayTakes_48 rfl 1 rfl ?_
        refine r_iconst (pc := 49) dX11_trayTakes_49 kc_iconst_2 ?_
        refine r_icmp_ne (pc := 50) (tgt := 57) dX11_trayTakes_50 rfl (fun c => ?_) (fun c => ?_)
        · have h := ie h c
          refine r_iconst (pc := 57) dX11_trayTakes_57 kc_iconst_0 ?_
          subst h
          exact r_zret dX11_trayTakes_58 (Or.inl rfl)
        · have h := it h c
          refine r_iconst (pc := 53) dX11_trayTakes_53 kc_iconst_1 ?_
          refine r_goto (pc := 54) (tgt := 58) dX11_trayTakes_54 rfl ?_
          subst h
          exact r_zret dX11_trayTakes_58 (Or.inr rfl)
    · rcases itc h with ⟨c3, h⟩ | ⟨c3, h⟩
      · refine r_tsIn (pc := 1) (tgt := 59) dX11_trayTakes_1 (by rw [c3]; decide) (by rw [c3]; decide) (by rw [c3]; rfl) rfl ?_
        refine r_iload_n (pc := 59) dX11_trayTakes_59 rfl 1 rfl ?_
        refine r_if_eq (pc := 60) (tgt := 68) dX11_trayTakes_60 rfl (fun c => ?_) (fun c => ?_)
        · have h := it h c
          refine r_iconst (pc := 68) dX11_trayTakes_68 kc_iconst_1 ?_
          refine r_goto (pc := 69) (tgt := 73) dX11_trayTakes_69 rfl ?_
          subst h
          exact r_zret dX11_trayTakes_73 (Or.inr rfl)
        · have h := ie h c
          refine r_iload_n (pc := 63) dX11_trayTakes_63 rfl 1 rfl ?_
          refine r_iconst (pc := 64) dX11_trayTakes_64 kc_iconst_3 ?_
          refine r_icmp_ne (pc := 65) (tgt := 72) dX11_trayTakes_65 rfl (fun c => ?_) (fun c => ?_)
          · have h := ie h c
            refine r_iconst (pc := 72) dX11_trayTakes_72 kc_iconst_0 ?_
            subst h
            exact r_zret dX11_trayTakes_73 (Or.inl rfl)
          · have h := it h c
            refine r_iconst (pc := 68) dX11_trayTakes_68 kc_iconst_1 ?_
            refine r_goto (pc := 69) (tgt := 73) dX11_trayTakes_69 rfl ?_
            subst h
            exact r_zret dX11_trayTakes_73 (Or.inr rfl)
      · rcases itc h with ⟨c4, h⟩ | ⟨c4, h⟩
        · refine r_tsIn (pc := 1) (tgt := 74) dX11_trayTakes_1 (by rw [c4]; decide) (by rw [c4]; decide) (by rw [c4]; rfl) rfl ?_
          refine r_iload_n (pc := 74) dX11_trayTakes_74 rfl 1 rfl ?_
          refine r_callS1 (pc := 75) (av := [vI x1]) (S := []) dX11_trayTakes_75 (kX11_thirsts rfl) mkX11_515 mwX11_thirsts rfl ⟨Nat.le_of_ble_eq_true rfl, Nat.le_of_ble_eq_true rfl⟩ (Nat.le_of_ble_eq_true rfl) ⟨Nat.le_refl _, Nat.le_refl _⟩ (fun b => b) ?_
          subst h
          exact r_zret dX11_trayTakes_78 (zX11_thirsts x1)
        · refine r_tsOut (pc := 1) (tgt := 79) dX11_trayTakes_1 (by have ec1 := i32n c1 (k := 12) rfl; have ec2 := i32n c2 (k := 13) rfl; have ec3 := i32n c3 (k := 14) rfl; have ec4 := i32n c4 (k := 15) rfl; omega) rfl ?_
          refine r_iconst (pc := 79) dX11_trayTakes_79 kc_iconst_0 ?_
          subst h
          exact r_zret dX11_trayTakes_80 (Or.inl rfl)
abbrev WX11_get (G : Gx) (l : Launch) (σ0 : Shp) (X1 : Stt) (rv : Option SV) : Stt → Nat → List (Nat × SV) → List SV → Prop := Wm G l yX11_get cX11_get 6 (some .long) (fun _ => True) (rmx 3 65 σ0 X1.1) σ0 (Qmx G σ0 X1 rv)
def fX11_get (σ : Shp) (I : Nat → Nat → Int32) (J : Nat → Nat → Int64) (R : Nat → Nat → Option Nat) (t : Nat) (x1 : Int32) (x2 : Int32) (x3 : Int32) : Option ((Nat → Nat → Int32) × (Int64)) :=
  if (fX11_isBin x1) = 0 then
    some (I, (0 : Int64))
  else
    if (fX11_isLane x2) = 0 then
      some (I, (0 : Int64))
    else
      if kdx σ t = 12 then
      ((R t 1) : Option Nat).bind fun a2 =>
      if kdx σ a2 = 26 then
      if ¬ (x1 < 0 ∨ lnx σ a2 ≤ Int32.toNatClampNeg x1) then
      let v5 := (R a2 (Int32.toNatClampNeg x1))
      (fX11_cellFault σ I R v5 x2 x3).bind fun r6 =>
      if r6 = 0 then
        onl v5
          (
            (fX11_fail σ I t r6).bind fun (I12, r13) =>
            some (I12, (0 : Int64)))
          (fun a11 =>
            if kdx σ a11 = 11 then
            ((R a11 1) : Option Nat).bind fun a16 =>
            if kdx σ a16 = 21 then
            if ¬ (x3 < 0 ∨ lnx σ a16 ≤ Int32.toNatClampNeg x3) then
            some (I, (J a16 (Int32.toNatClampNeg x3)))
            else none
            else none
            else none)
      else
        (fX11_fail σ I t r6).bind fun (I8, r9) =>
        some (I8, (0 : Int64))
      else none
      else none
      else none
theorem kX11_get {G : Gx} {l : Launch} {σ : Shp} {I : Nat → Nat → Int32} {J : Nat → Nat → Int64} {D : Nat → Nat → UInt64} {R : Nat → Nat → Option Nat} {t : Nat} {x1 : Int32} {x2 : Int32} {x3 : Int32} {I9 : Nat → Nat → Int32} {r9 : Int64} (h : fX11_get σ I J R t x1 x2 x3 = some (I9, r9)) : Con G l yX11_get cX11_get 6 (some .long) 3 65 [vR (some t), vI x1, vI x2, vI x3] (σ, I, J, D, R) (σ, I9, J, D, R) (some (vL r9)) := by
  unfold fX11_get at h
  refine Con.mk (by decide) rfl (Nat.le_of_ble_eq_true rfl) ?_
  show WX11_get G l σ (σ, I9, J, D, R) (some (vL r9)) (σ, I, J, D, R) 0 _ []
  refine r_iload_n (pc := 0) dX11_get_0 rfl 1 rfl ?_
  refine r_callS1 (pc := 1) (av := [vI x1]) (S := []) dX11_get_1 (kX11_isBin rfl) mkX11_76 mwX11_isBin rfl ⟨Nat.le_of_ble_eq_true rfl, Nat.le_of_ble_eq_true rfl⟩ (Nat.le_of_ble_eq_true rfl) ⟨Nat.le_refl _, Nat.le_refl _⟩ (fun b => b) ?_
  refine r_if_eq (pc := 4) (tgt := 14) dX11_get_4 rfl (fun c => ?_) (fun c => ?_)
  · have h := it h c
    refine r_lconst (pc := 14) dX11_get_14 kc_lconst_0 ?_
    cases h
    exact r_lret dX11_get_15
  · have h := ie h c
    refine r_iload_n (pc := 7) dX11_get_7 rfl 2 rfl ?_
    refine r_callS1 (pc := 8) (av := [vI x2]) (S := []) dX11_get_8 (kX11_isLane rfl) mkX11_80 mwX11_isLane rfl ⟨Nat.le_of_ble_eq_true rfl, Nat.le_of_ble_eq_true rfl⟩ (Nat.le_of_ble_eq_true rfl) ⟨Nat.le_refl _, Nat.le_refl _⟩ (fun b => b) ?_
    refine r_ifne (pc := 11) (tgt := 16) dX11_get_11 rfl (fun c => ?_) (fun c => ?_)
    · have h := ie h c
      refine r_aload_n (pc := 16) dX11_get_16 rfl 0 rfl ?_
      obtain ⟨g1, h⟩ := gd h
      obtain ⟨a2, ha2, h⟩ := ob h
      refine r_getS (pc := 17) dX11_get_17 fgX11_20 rfl g1 ha2 ?_
      refine r_iload_n (pc := 20) dX11_get_20 rfl 1 rfl ?_
      obtain ⟨g3, h⟩ := gd h
      obtain ⟨g4, h⟩ := gd h
      refine r_aaload (pc := 21) dX11_get_21 g3 (by decide) g4 ?_
      refine r_astore (pc := 22) (L' := [(4, vR (R a2 (Int32.toNatClampNeg x1))), (0, vR (some t)), (1, vI x1), (2, vI x2), (3, vI x3)]) dX11_get_22 (by decide) rfl ?_
      refine r_aload (pc := 24) dX11_get_24 0 rfl ?_
      refine r_iload_n (pc := 26) dX11_get_26 rfl 3 rfl ?_
      refine r_iload_n (pc := 27) dX11_get_27 rfl 4 rfl ?_
      obtain ⟨r6, hc7, h⟩ := ob h
      refine r_callS1 (pc := 28) (av := [vR (R a2 (Int32.toNatClampNeg x1)), vI x2, vI x3]) (S := []) dX11_get_28 (kX11_cellFault hc7) mkX11_130 mwX11_cellFault rfl ⟨Nat.le_of_ble_eq_true rfl, Nat.le_of_ble_eq_true rfl⟩ (Nat.le_of_ble_eq_true rfl) ⟨Nat.le_refl _, Nat.le_refl _⟩ (fun b => b) ?_
      refine r_istore (pc := 31) (L' := [(5, vI r6), (4, vR (R a2 (Int32.toNatClampNeg x1))), (0, vR (some t)), (1, vI x1), (2, vI x2), (3, vI x3)]) dX11_get_31 (by decide) rfl ?_
      refine r_iload (pc := 33) dX11_get_33 0 rfl ?_
      refine r_ifne (pc := 35) (tgt := 43) dX11_get_35 rfl (fun c => ?_) (fun c => ?_)
      · have h := ie h c
        refine r_aload_n (pc := 43) dX11_get_43 rfl 2 rfl ?_
        refine r_iload (pc := 44) dX11_get_44 0 rfl ?_
        obtain ⟨⟨I8, r9⟩, hc10, h⟩ := ob h
        refine r_callV1 (pc := 46) (av := [vI r6]) (S := []) dX11_get_46 (kX11_fail hc10) g1 rfl mkX11_87 mwX11_fail rfl ⟨Nat.le_of_ble_eq_true rfl, Nat.le_of_ble_eq_true rfl⟩ (Nat.le_of_ble_eq_true rfl) ⟨Nat.le_refl _, Nat.le_refl _⟩ (fun b => b) ?_
        refine r_pop (pc := 49) dX11_get_49 rfl ?_
        refine r_lconst (pc := 50) dX11_get_50 kc_lconst_0 ?_
        cases h
        exact r_lret dX11_get_51
      · have h := it h c
        refine r_aload (pc := 38) dX11_get_38 1 rfl ?_
        rcases onl_c h with ⟨ea11, h⟩ | ⟨a11, ha11, h⟩
        · refine r_ref0n ea11 ?_
          refine r_ifnonnull_n (pc := 40) dX11_get_40 ?_
          refine r_aload_n (pc := 43) dX11_get_43 rfl 2 rfl ?_
          refine r_iload (pc := 44) dX11_get_44 0 rfl ?_
          obtain ⟨⟨I12, r13⟩, hc14, h⟩ := ob h
          refine r_callV1 (pc := 46) (av := [vI r6]) (S := []) dX11_get_46 (kX11_fail hc14) g1 rfl mkX11_87 mwX11_fail rfl ⟨Nat.le_of_ble_eq_true rfl, Nat.le_of_ble_eq_true rfl⟩ (Nat.le_of_ble_eq_true rfl) ⟨Nat.le_refl _, Nat.le_refl _⟩ (fun b => b) ?_
          refine r_pop (pc := 49) dX11_get_49 rfl ?_
          refine r_lconst (pc := 50) dX11_get_50 kc_lconst_0 ?_
          cases h
          exact r_lret dX11_get_51
        · refine r_ref0 ha11 ?_
          refine r_ifnonnull_s (pc := 40) (tgt := 52) dX11_get_40 rfl ?_
          refine r_aload (pc := 52) dX11_get_52 1 rfl ?_
          refine r_ref0 ha11 ?_
          obtain ⟨g15, h⟩ := gd h
          obtain ⟨a16, ha16, h⟩ := ob h
          refine r_getS (pc := 54) dX11_get_54 fgX11_134 rfl g15 ha16 ?_
          refine r_iload_n (pc := 57) dX11_get_57 rfl 5 rfl ?_
          obtain ⟨g17, h⟩ := gd h
          obtain ⟨g18, h⟩ := gd h
          refine r_laload (pc := 58) dX11_get_58 g17 g18 ?_
          cases h
          exact r_lret dX11_get_59
    · have h := it h c
      refine r_lconst (pc := 14) dX11_get_14 kc_lconst_0 ?_
      cases h
      exact r_lret dX11_get_15
abbrev WX11_put (G : Gx) (l : Launch) (σ0 : Shp) (X1 : Stt) (rv : Option SV) : Stt → Nat → List (Nat × SV) → List SV → Prop := Wm G l yX11_put cX11_put 8 (some .int) (fun _ => True) (rmx 3 65 σ0 X1.1) σ0 (Qmx G σ0 X1 rv)
def fX11_put (σ : Shp) (I : Nat → Nat → Int32) (J : Nat → Nat → Int64) (R : Nat → Nat → Option Nat) (t : Nat) (x1 : Int32) (x2 : Int32) (x3 : Int32) (x4 : Int64) : Option ((Nat → Nat → Int32) × (Nat → Nat → Int64) × (Int32)) :=
  if (fX11_isBin x1) = 0 then
    some (I, J, (-2 : Int32))
  else
    if (fX11_isLane x2) = 0 then
      some (I, J, (-2 : Int32))
    else
      if kdx σ t = 12 then
      ((R t 1) : Option Nat).bind fun a2 =>
      if kdx σ a2 = 26 then
      if ¬ (x1 < 0 ∨ lnx σ a2 ≤ Int32.toNatClampNeg x1) then
      let v5 := (R a2 (Int32.toNatClampNeg x1))
      (fX11_cellFault σ I R v5 x2 x3).bind fun r6 =>
      if r6 = 0 then
        onl v5
          (
            (fX11_fail σ I t r6).bind fun (I12, r13) =>
            some (I12, J, r13))
          (fun a11 =>
            if kdx σ a11 = 11 then
            ((R a11 1) : Option Nat).bind fun a16 =>
            if kdx σ a16 = 21 then
            if ¬ (x3 < 0 ∨ lnx σ a16 ≤ Int32.toNatClampNeg x3) then
            let J19 := u2 J a16 (Int32.toNatClampNeg x3) (fX11_cellOf x2 x4)
            some (I, J19, (1 : Int32))
            else none
            else none
            else none)
      else
        (fX11_fail σ I t r6).bind fun (I8, r9) =>
        some (I8, J, r9)
      else none
      else none
      else none
theorem kX11_put {G : Gx} {l : Launch} {σ : Shp} {I : Nat → Nat → Int32} {J : Nat → Nat → Int64} {D : Nat → Nat → UInt64} {R : Nat → Nat → Option Nat} {t : Nat} {x1 : Int32} {x2 : Int32} {x3 : Int32} {x4 : Int64} {I9 : Nat → Nat → Int32} {J9 : Nat → Nat → Int64} {r9 : Int32} (h : fX11_put σ I J R t x1 x2 x3 x4 = some (I9, J9, r9)) : Con G l yX11_put cX11_put 8 (some .int) 3 65 [vR (some t), vI x1, vI x2, vI x3, vL x4] (σ, I, J, D, R) (σ, I9, J9, D, R) (some (vI r9)) := by
  unfold fX11_put at h
  refine Con.mk (by decide) rfl (Nat.le_of_ble_eq_true rfl) ?_
  show WX11_put G l σ (σ, I9, J9, D, R) (some (vI r9)) (σ, I, J, D, R) 0 _ []
  refine r_iload_n (pc := 0) dX11_put_0 rfl 1 rfl ?_
  refine r_callS1 (pc := 1) (av := [vI x1]) (S := []) dX11_put_1 (kX11_isBin rfl) mkX11_76 mwX11_isBin rfl ⟨Nat.le_of_ble_eq_true rfl, Nat.le_of_ble_eq_true rfl⟩ (Nat.le_of_ble_eq_true rfl) ⟨Nat.le_refl _, Nat.le_refl _⟩ (fun b => b) ?_
  refine r_if_eq (pc := 4) (tgt := 14) dX11_put_4 rfl (fun c => ?_) (fun c => ?_)
  · have h := it h c
    refine r_bipush (pc := 14) dX11_put_14 kc_bipush_m2 ?_
    cases h
    exact r_iret dX11_put_16
  · have h := ie h c
    refine r_iload_n (pc := 7) dX11_put_7 rfl 2 rfl ?_
    refine r_callS1 (pc := 8) (av := [vI x2]) (S := []) dX11_put_8 (kX11_isLane rfl) mkX11_80 mwX11_isLane rfl ⟨Nat.le_of_ble_eq_true rfl, Nat.le_of_ble_eq_true rfl⟩ (Nat.le_of_ble_eq_true rfl) ⟨Nat.le_refl _, Nat.le_refl _⟩ (fun b => b) ?_
    refine r_ifne (pc := 11) (tgt := 17) dX11_put_11 rfl (fun c => ?_) (fun c => ?_)
    · have h := ie h c
      refine r_aload_n (pc := 17) dX11_put_17 rfl 0 rfl ?_
      obtain ⟨g1, h⟩ := gd h
      obtain ⟨a2, ha2, h⟩ := ob h
      refine r_getS (pc := 18) dX11_put_18 fgX11_20 rfl g1 ha2 ?_
      refine r_iload_n (pc := 21) dX11_put_21 rfl 1 rfl ?_
      obtain ⟨g3, h⟩ := gd h
      obtain ⟨g4, h⟩ := gd h
      refine r_aaload (pc := 22) dX11_put_22 g3 (by decide) g4 ?_
      refine r_astore (pc := 23) (L' := [(6, vR (R a2 (Int32.toNatClampNeg x1))), (0, vR (some t)), (1, vI x1), (2, vI x2), (3, vI x3), (4, vL x4)]) dX11_put_23 (by decide) rfl ?_
      refine r_aload (pc := 25) dX11_put_25 0 rfl ?_
      refine r_iload_n (pc := 27) dX11_put_27 rfl 3 rfl ?_
      refine r_iload_n (pc := 28) dX11_put_28 rfl 4 rfl ?_
      obtain ⟨r6, hc7, h⟩ := ob h
      refine r_callS1 (pc := 29) (av := [vR (R a2 (Int32.toNatClampNeg x1)), vI x2, vI x3]) (S := []) dX11_put_29 (kX11_cellFault hc7) mkX11_130 mwX11_cellFault rfl ⟨Nat.le_of_ble_eq_true rfl, Nat.le_of_ble_eq_true rfl⟩ (Nat.le_of_ble_eq_true rfl) ⟨Nat.le_refl _, Nat.le_refl _⟩ (fun b => b) ?_
      refine r_istore (pc := 32) (L' := [(7, vI r6), (6, vR (R a2 (Int32.toNatClampNeg x1))), (0, vR (some t)), (1, vI x1), (2, vI x2), (3, vI x3), (4, vL x4)]) dX11_put_32 (by decide) rfl ?_
      refine r_iload (pc := 34) dX11_put_34 0 rfl ?_
      refine r_ifne (pc := 36) (tgt := 44) dX11_put_36 rfl (fun c => ?_) (fun c => ?_)
      · have h := ie h c
        refine r_aload_n (pc := 44) dX11_put_44 rfl 2 rfl ?_
        refine r_iload (pc := 45) dX11_put_45 0 rfl ?_
        obtain ⟨⟨I8, r9⟩, hc10, h⟩ := ob h
        refine r_callV1 (pc := 47) (av := [vI r6]) (S := []) dX11_put_47 (kX11_fail hc10) g1 rfl mkX11_87 mwX11_fail rfl ⟨Nat.le_of_ble_eq_true rfl, Nat.le_of_ble_eq_true rfl⟩ (Nat.le_of_ble_eq_true rfl) ⟨Nat.le_refl _, Nat.le_refl _⟩ (fun b => b) ?_
        cases h
        exact r_iret dX11_put_50
      · have h := it h c
        refine r_aload (pc := 39) dX11_put_39 1 rfl ?_
        rcases onl_c h with ⟨ea11, h⟩ | ⟨a11, ha11, h⟩
        · refine r_ref0n ea11 ?_
          refine r_ifnonnull_n (pc := 41) dX11_put_41 ?_
          refine r_aload_n (pc := 44) dX11_put_44 rfl 2 rfl ?_
          refine r_iload (pc := 45) dX11_put_45 0 rfl ?_
          obtain ⟨⟨I12, r13⟩, hc14, h⟩ := ob h
          refine r_callV1 (pc := 47) (av := [vI r6]) (S := []) dX11_put_47 (kX11_fail hc14) g1 rfl mkX11_87 mwX11_fail rfl ⟨Nat.le_of_ble_eq_true rfl, Nat.le_of_ble_eq_true rfl⟩ (Nat.le_of_ble_eq_true rfl) ⟨Nat.le_refl _, Nat.le_refl _⟩ (fun b => b) ?_
          cases h
          exact r_iret dX11_put_50
        · refine r_ref0 ha11 ?_
          refine r_ifnonnull_s (pc := 41) (tgt := 51) dX11_put_41 rfl ?_
          refine r_aload (pc := 51) dX11_put_51 1 rfl ?_
          refine r_ref0 ha11 ?_
          obtain ⟨g15, h⟩ := gd h
          obtain ⟨a16, ha16, h⟩ := ob h
          refine r_getS (pc := 53) dX11_put_53 fgX11_134 rfl g15 ha16 ?_
          refine r_iload_n (pc := 56) dX11_put_56 rfl 5 rfl ?_
          refine r_iload_n (pc := 57) dX11_put_57 rfl 4 rfl ?_
          refine r_lload (pc := 58) dX11_put_58 6 rfl ?_
          refine r_callS1 (pc := 60) (av := [vI x2, vL x4]) (S := [vI x3, vR (some a16)]) dX11_put_60 (kX11_cellOf rfl) mkX11_137 mwX11_cellOf rfl ⟨Nat.le_of_ble_eq_true rfl, Nat.le_of_ble_eq_true rfl⟩ (Nat.le_of_ble_eq_true rfl) ⟨Nat.le_refl _, Nat.le_refl _⟩ (fun b => b) ?_
          obtain ⟨g17, h⟩ := gd h
          obtain ⟨g18, h⟩ := gd h
          refine r_lastore (pc := 63) dX11_put_63 g17 g18 ?_
          refine r_iconst (pc := 64) dX11_put_64 kc_iconst_1 ?_
          cases h
          exact r_iret dX11_put_65
    · have h := it h c
      refine r_bipush (pc := 14) dX11_put_14 kc_bipush_m2 ?_
      cases h
      exact r_iret dX11_put_16
abbrev WX12_in (G : Gx) (l : Launch) (σ0 : Shp) (X1 : Stt) (rv : Option SV) : Stt → Nat → List (Nat × SV) → List SV → Prop := Wm G l yX12_in cX12_in 3 (some .boolean) (fun _ => True) (rmx 0 0 σ0 X1.1) σ0 (Qmx G σ0 X1 rv)
def fX12_in  (x0 : Int32) (x1 : Int32) (x2 : Int32) : (Int32) :=
  if x0 < x1 then
    (0 : Int32)
  else
    if x2 < x0 then
      (0 : Int32)
    else
      (1 : Int32)
theorem zX12_in  (x0 : Int32) (x1 : Int32) (x2 : Int32) : fX12_in x0 x1 x2 = 0 ∨ fX12_in x0 x1 x2 = 1 := by
  unfold fX12_in
  repeat' split
  all_goals first | exact Or.inl rfl | exact Or.inr rfl
theorem kX12_in {G : Gx} {l : Launch} {σ : Shp} {I : Nat → Nat → Int32} {J : Nat → Nat → Int64} {D : Nat → Nat → UInt64} {R : Nat → Nat → Option Nat} {x0 : Int32} {x1 : Int32} {x2 : Int32} {r9 : Int32} (h : fX12_in x0 x1 x2 = r9) : Con G l yX12_in cX12_in 3 (some .boolean) 0 0 [vI x0, vI x1, vI x2] (σ, I, J, D, R) (σ, I, J, D, R) (some (vI r9)) := by
  unfold fX12_in at h
  refine Con.mk (by decide) rfl (Nat.le_of_ble_eq_true rfl) ?_
  show WX12_in G l σ (σ, I, J, D, R) (some (vI r9)) (σ, I, J, D, R) 0 _ []
  refine r_iload_n (pc := 0) dX12_in_0 rfl 0 rfl ?_
  refine r_iload_n (pc := 1) dX12_in_1 rfl 1 rfl ?_
  refine r_icmp_lt (pc := 2) (tgt := 14) dX12_in_2 rfl (fun c => ?_) (fun c => ?_)
  · have h := it h c
    refine r_iconst (pc := 14) dX12_in_14 kc_iconst_0 ?_
    subst h
    exact r_zret dX12_in_15 (Or.inl rfl)
  · have h := ie h c
    refine r_iload_n (pc := 5) dX12_in_5 rfl 0 rfl ?_
    refine r_iload_n (pc := 6) dX12_in_6 rfl 2 rfl ?_
    refine r_icmp_gt (pc := 7) (tgt := 14) dX12_in_7 rfl (fun c => ?_) (fun c => ?_)
    · have h := it h c
      refine r_iconst (pc := 14) dX12_in_14 kc_iconst_0 ?_
      subst h
      exact r_zret dX12_in_15 (Or.inl rfl)
    · have h := ie h c
      refine r_iconst (pc := 10) dX12_in_10 kc_iconst_1 ?_
      refine r_goto (pc := 11) (tgt := 15) dX12_in_11 rfl ?_
      subst h
      exact r_zret dX12_in_15 (Or.inr rfl)
abbrev WX12_looked (G : Gx) (l : Launch) (σ0 : Shp) (X1 : Stt) (rv : Option SV) : Stt → Nat → List (Nat × SV) → List SV → Prop := Wm G l yX12_looked cX12_looked 3 (some .int) (fun _ => True) (rmx 1 22 σ0 X1.1) σ0 (Qmx G σ0 X1 rv)
def fX12_looked (σ : Shp) (I : Nat → Nat → Int32) (R : Nat → Nat → Option Nat) (t : Nat) (x1 : Int32) (x2 : Int32) : Option ((Int32)) :=
  if x1 = 0 then
    some (1 : Int32)
  else
    if kdx σ t = 13 then
    ((R t 5) : Option Nat).bind fun a2 =>
    if kdx σ a2 = 22 then
    if ¬ (x1 < 0 ∨ lnx σ a2 ≤ Int32.toNatClampNeg x1) then
    if (fX12_in x2 (0 : Int32) ((I a2 (Int32.toNatClampNeg x1)) - (1 : Int32))) = 0 then
      some (2 : Int32)
    else
      some (0 : Int32)
    else none
    else none
    else none
theorem kX12_looked {G : Gx} {l : Launch} {σ : Shp} {I : Nat → Nat → Int32} {J : Nat → Nat → Int64} {D : Nat → Nat → UInt64} {R : Nat → Nat → Option Nat} {t : Nat} {x1 : Int32} {x2 : Int32} {r9 : Int32} (h : fX12_looked σ I R t x1 x2 = some r9) : Con G l yX12_looked cX12_looked 3 (some .int) 1 22 [vR (some t), vI x1, vI x2] (σ, I, J, D, R) (σ, I, J, D, R) (some (vI r9)) := by
  unfold fX12_looked at h
  refine Con.mk (by decide) rfl (Nat.le_of_ble_eq_true rfl) ?_
  show WX12_looked G l σ (σ, I, J, D, R) (some (vI r9)) (σ, I, J, D, R) 0 _ []
  refine r_iload_n (pc := 0) dX12_looked_0 rfl 1 rfl ?_
  refine r_ifne (pc := 1) (tgt := 8) dX12_looked_1 rfl (fun c => ?_) (fun c => ?_)
  · have h := ie h c
    refine r_iload_n (pc := 8) dX12_looked_8 rfl 2 rfl ?_
    refine r_iconst (pc := 9) dX12_looked_9 kc_iconst_0 ?_
    refine r_aload_n (pc := 10) dX12_looked_10 rfl 0 rfl ?_
    obtain ⟨g1, h⟩ := gd h
    obtain ⟨a2, ha2, h⟩ := ob h
    refine r_getS (pc := 11) dX12_looked_11 fgX12_19 rfl g1 ha2 ?_
    refine r_iload_n (pc := 14) dX12_looked_14 rfl 1 rfl ?_
    obtain ⟨g3, h⟩ := gd h
    obtain ⟨g4, h⟩ := gd h
    refine r_baload (pc := 15) dX12_looked_15 g3 g4 ?_
    refine r_iconst (pc := 16) dX12_looked_16 kc_iconst_1 ?_
    refine r_isub (pc := 17) dX12_looked_17 ?_
    refine r_callS1 (pc := 18) (av := [vI x2, vI (0 : Int32), vI ((I a2 (Int32.toNatClampNeg x1)) - (1 : Int32))]) (S := []) dX12_looked_18 (kX12_in rfl) mkX12_322 mwX12_in rfl ⟨Nat.le_of_ble_eq_true rfl, Nat.le_of_ble_eq_true rfl⟩ (Nat.le_of_ble_eq_true rfl) ⟨Nat.le_refl _, Nat.le_refl _⟩ (fun b => b) ?_
    refine r_if_eq (pc := 21) (tgt := 28) dX12_looked_21 rfl (fun c => ?_) (fun c => ?_)
    · have h := it h c
      refine r_iconst (pc := 28) dX12_looked_28 kc_iconst_2 ?_
      cases h
      exact r_iret dX12_looked_29
    · have h := ie h c
      refine r_iconst (pc := 24) dX12_looked_24 kc_iconst_0 ?_
      refine r_goto (pc := 25) (tgt := 29) dX12_looked_25 rfl ?_
      cases h
      exact r_iret dX12_looked_29
  · have h := it h c
    refine r_iconst (pc := 4) dX12_looked_4 kc_iconst_1 ?_
    refine r_goto (pc := 5) (tgt := 29) dX12_looked_5 rfl ?_
    cases h
    exact r_iret dX12_looked_29
