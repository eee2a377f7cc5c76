abbrev WX12_liftRow (G : Gx) (l : Launch) (σ0 : Shp) (X1 : Stt) (rv : Option SV) : Stt → Nat → List (Nat × SV) → List SV → Prop := Wm G l yX12_liftRow cX12_liftRow 7 none (fun _ => True) (rmx 0 0 σ0 X1.1) σ0 (Qmx G σ0 X1 rv)
def fX12_liftRow_l2  (σ : Shp) (I : Nat → Nat → Int32) (R : Nat → Nat → Option Nat) (t : Nat) : Nat → (Nat → Nat → Int64) → (Int32) → (Int32) → Option ((Nat → Nat → Int64))
  | 0, _, _, _ => none
  | n + 1, J, x1, x2 =>
    if (8 : Int32) ≤ x2 then
      some J
    else
      if kdx σ t = 13 then
      ((R t 111) : Option Nat).bind fun a2 =>
      if kdx σ a2 = 21 then
      if ¬ ((((8 : Int32) * x1) + x2) < 0 ∨ lnx σ a2 ≤ Int32.toNatClampNeg (((8 : Int32) * x1) + x2)) then
      let v5 := (J a2 (Int32.toNatClampNeg (((8 : Int32) * x1) + x2)))
      ((R t 112) : Option Nat).bind fun a6 =>
      if kdx σ a6 = 21 then
      if ¬ ((((8 : Int32) * x1) + x2) < 0 ∨ lnx σ a6 ≤ Int32.toNatClampNeg (((8 : Int32) * x1) + x2)) then
      let v9 := (J a6 (Int32.toNatClampNeg (((8 : Int32) * x1) + x2)))
      if ¬ ((((8 : Int32) * (I t 114)) + x2) < 0 ∨ lnx σ a2 ≤ Int32.toNatClampNeg (((8 : Int32) * (I t 114)) + x2)) then
      let J11 := u2 J a2 (Int32.toNatClampNeg (((8 : Int32) * x1) + x2)) (J a2 (Int32.toNatClampNeg (((8 : Int32) * (I t 114)) + x2)))
      if ¬ ((((8 : Int32) * (I t 114)) + x2) < 0 ∨ lnx σ a6 ≤ Int32.toNatClampNeg (((8 : Int32) * (I t 114)) + x2)) then
      let J13 := u2 J11 a6 (Int32.toNatClampNeg (((8 : Int32) * x1) + x2)) (J11 a6 (Int32.toNatClampNeg (((8 : Int32) * (I t 114)) + x2)))
      let J14 := u2 J13 a2 (Int32.toNatClampNeg (((8 : Int32) * (I t 114)) + x2)) v5
      let J15 := u2 J14 a6 (Int32.toNatClampNeg (((8 : Int32) * (I t 114)) + x2)) v9
      let v16 := x2 + (1 : Int32)
      fX12_liftRow_l2 σ I R t n J15 x1 v16
      else none
      else none
      else none
      else none
      else none
      else none
      else none
theorem wX12_liftRow_l2 {G : Gx} {l : Launch} {σ : Shp} {I : Nat → Nat → Int32} {D : Nat → Nat → UInt64} {R : Nat → Nat → Option Nat} {t : Nat} {J9 : Nat → Nat → Int64} : ∀ (n : Nat) (J : Nat → Nat → Int64) (x1 : Int32) (x2 : Int32), fX12_liftRow_l2 σ I R t n J x1 x2 = some J9 → WX12_liftRow G l σ (σ, I, J9, D, R) none (σ, I, J, D, R) 2 [(0, vR (some t)), (1, vI x1), (2, vI x2)] [] := by
  intro n
  induction n with
  | zero =>
    intro J x1 x2 h
    have h : none = some _ := h
    cases h
  | succ n ih =>
    intro J x1 x2 h
    rw [fX12_liftRow_l2] at h
    refine r_iload_n (pc := 2) dX12_liftRow_2 rfl 2 rfl ?_
    refine r_bipush (pc := 3) dX12_liftRow_3 kc_bipush_8 ?_
    refine r_icmp_ge (pc := 5) (tgt := 120) dX12_liftRow_5 rfl (fun c => ?_) (fun c => ?_)
    · have h := it h c
      cases h
      exact r_vret dX12_liftRow_120
    · have h := ie h c
      refine r_aload_n (pc := 8) dX12_liftRow_8 rfl 0 rfl ?_
      obtain ⟨g1, h⟩ := gd h
      obtain ⟨a2, ha2, h⟩ := ob h
      refine r_getS (pc := 9) dX12_liftRow_9 fgX12_257 rfl g1 ha2 ?_
      refine r_bipush (pc := 12) dX12_liftRow_12 kc_bipush_8 ?_
      refine r_iload_n (pc := 14) dX12_liftRow_14 rfl 1 rfl ?_
      refine r_imul (pc := 15) dX12_liftRow_15 ?_
      refine r_iload_n (pc := 16) dX12_liftRow_16 rfl 2 rfl ?_
      refine r_iadd (pc := 17) dX12_liftRow_17 ?_
      obtain ⟨g3, h⟩ := gd h
      obtain ⟨g4, h⟩ := gd h
      refine r_laload (pc := 18) dX12_liftRow_18 g3 g4 ?_
      refine r_lstore_n (pc := 19) (L' := [(3, vL (J a2 (Int32.toNatClampNeg (((8 : Int32) * x1) + x2)))), (0, vR (some t)), (1, vI x1), (2, vI x2)]) dX12_liftRow_19 rfl (by decide) rfl ?_
      refine r_aload_n (pc := 20) dX12_liftRow_20 rfl 1 rfl ?_
      obtain ⟨a6, ha6, h⟩ := ob h
      refine r_getS (pc := 21) dX12_liftRow_21 fgX12_260 rfl g1 ha6 ?_
      refine r_bipush (pc := 24) dX12_liftRow_24 kc_bipush_8 ?_
      refine r_iload_n (pc := 26) dX12_liftRow_26 rfl 2 rfl ?_
      refine r_imul (pc := 27) dX12_liftRow_27 ?_
      refine r_iload_n (pc := 28) dX12_liftRow_28 rfl 3 rfl ?_
      refine r_iadd (pc := 29) dX12_liftRow_29 ?_
      obtain ⟨g7, h⟩ := gd h
      obtain ⟨g8, h⟩ := gd h
      refine r_laload (pc := 30) dX12_liftRow_30 g7 g8 ?_
      refine r_lstore (pc := 31) (L' := [(5, vL (J a6 (Int32.toNatClampNeg (((8 : Int32) * x1) + x2)))), (3, vL (J a2 (Int32.toNatClampNeg (((8 : Int32) * x1) + x2)))), (0, vR (some t)), (1, vI x1), (2, vI x2)]) dX12_liftRow_31 (by decide) rfl ?_
      refine r_aload_n (pc := 33) dX12_liftRow_33 rfl 2 rfl ?_
      refine r_getS (pc := 34) dX12_liftRow_34 fgX12_257 rfl g1 ha2 ?_
      refine r_bipush (pc := 37) dX12_liftRow_37 kc_bipush_8 ?_
      refine r_iload_n (pc := 39) dX12_liftRow_39 rfl 3 rfl ?_
      refine r_imul (pc := 40) dX12_liftRow_40 ?_
      refine r_iload_n (pc := 41) dX12_liftRow_41 rfl 4 rfl ?_
      refine r_iadd (pc := 42) dX12_liftRow_42 ?_
      refine r_aload_n (pc := 43) dX12_liftRow_43 rfl 2 rfl ?_
      refine r_getS (pc := 44) dX12_liftRow_44 fgX12_257 rfl g1 ha2 ?_
      refine r_bipush (pc := 47) dX12_liftRow_47 kc_bipush_8 ?_
      refine r_aload_n (pc := 49) dX12_liftRow_49 rfl 2 rfl ?_
      refine r_getI (pc := 50) dX12_liftRow_50 fgX12_741 rfl g1 ?_
      refine r_imul (pc := 53) dX12_liftRow_53 ?_
      refine r_iload_n (pc := 54) dX12_liftRow_54 rfl 4 rfl ?_
      refine r_iadd (pc := 55) dX12_liftRow_55 ?_
      obtain ⟨g10, h⟩ := gd h
      refine r_laload (pc := 56) dX12_liftRow_56 g3 g10 ?_
      refine r_lastore (pc := 57) dX12_liftRow_57 g3 g4 ?_
      refine r_aload_n (pc := 58) dX12_liftRow_58 rfl 2 rfl ?_
      refine r_getS (pc := 59) dX12_liftRow_59 fgX12_260 rfl g1 ha6 ?_
      refine r_bipush (pc := 62) dX12_liftRow_62 kc_bipush_8 ?_
      refine r_iload_n (pc := 64) dX12_liftRow_64 rfl 3 rfl ?_
      refine r_imul (pc := 65) dX12_liftRow_65 ?_
      refine r_iload_n (pc := 66) dX12_liftRow_66 rfl 4 rfl ?_
      refine r_iadd (pc := 67) dX12_liftRow_67 ?_
      refine r_aload_n (pc := 68) dX12_liftRow_68 rfl 2 rfl ?_
      refine r_getS (pc := 69) dX12_liftRow_69 fgX12_260 rfl g1 ha6 ?_
      refine r_bipush (pc := 72) dX12_liftRow_72 kc_bipush_8 ?_
      refine r_aload_n (pc := 74) dX12_liftRow_74 rfl 2 rfl ?_
      refine r_getI (pc := 75) dX12_liftRow_75 fgX12_741 rfl g1 ?_
      refine r_imul (pc := 78) dX12_liftRow_78 ?_
      refine r_iload_n (pc := 79) dX12_liftRow_79 rfl 4 rfl ?_
      refine r_iadd (pc := 80) dX12_liftRow_80 ?_
      obtain ⟨g12, h⟩ := gd h
      refine r_laload (pc := 81) dX12_liftRow_81 g7 g12 ?_
      refine r_lastore (pc := 82) dX12_liftRow_82 g7 g8 ?_
      refine r_aload_n (pc := 83) dX12_liftRow_83 rfl 2 rfl ?_
      refine r_getS (pc := 84) dX12_liftRow_84 fgX12_257 rfl g1 ha2 ?_
      refine r_bipush (pc := 87) dX12_liftRow_87 kc_bipush_8 ?_
      refine r_aload_n (pc := 89) dX12_liftRow_89 rfl 2 rfl ?_
      refine r_getI (pc := 90) dX12_liftRow_90 fgX12_741 rfl g1 ?_
      refine r_imul (pc := 93) dX12_liftRow_93 ?_
      refine r_iload_n (pc := 94) dX12_liftRow_94 rfl 4 rfl ?_
      refine r_iadd (pc := 95) dX12_liftRow_95 ?_
      refine r_lload_n (pc := 96) dX12_liftRow_96 rfl 1 rfl ?_
      refine r_lastore (pc := 97) dX12_liftRow_97 g3 g10 ?_
      refine r_aload_n (pc := 98) dX12_liftRow_98 rfl 2 rfl ?_
      refine r_getS (pc := 99) dX12_liftRow_99 fgX12_260 rfl g1 ha6 ?_
      refine r_bipush (pc := 102) dX12_liftRow_102 kc_bipush_8 ?_
      refine r_aload_n (pc := 104) dX12_liftRow_104 rfl 2 rfl ?_
      refine r_getI (pc := 105) dX12_liftRow_105 fgX12_741 rfl g1 ?_
      refine r_imul (pc := 108) dX12_liftRow_108 ?_
      refine r_iload_n (pc := 109) dX12_liftRow_109 rfl 4 rfl ?_
      refine r_iadd (pc := 110) dX12_liftRow_110 ?_
      refine r_lload (pc := 111) dX12_liftRow_111 0 rfl ?_
      refine r_lastore (pc := 113) dX12_liftRow_113 g7 g12 ?_
      refine r_iinc (pc := 114) (v := (x2 + (1 : Int32))) (L' := [(2, vI (x2 + (1 : Int32))), (5, vL (J a6 (Int32.toNatClampNeg (((8 : Int32) * x1) + x2)))), (3, vL (J a2 (Int32.toNatClampNeg (((8 : Int32) * x1) + x2)))), (0, vR (some t)), (1, vI x1)]) dX12_liftRow_114 4 rfl (kc_inc_1 _) (by decide) rfl ?_
      refine r_goto (pc := 117) (tgt := 2) dX12_liftRow_117 rfl ?_
      refine r_sub [3, 4, 0] rfl ?_
      exact ih _ _ _ h
def fX12_liftRow (σ : Shp) (I : Nat → Nat → Int32) (J : Nat → Nat → Int64) (R : Nat → Nat → Option Nat) (t : Nat) (x1 : Int32) : Option ((Nat → Nat → Int64)) :=
  fX12_liftRow_l2 σ I R t FUx J x1 (0 : Int32)
theorem kX12_liftRow {G : Gx} {l : Launch} {σ : Shp} {I : Nat → Nat → Int32} {J : Nat → Nat → Int64} {D : Nat → Nat → UInt64} {R : Nat → Nat → Option Nat} {t : Nat} {x1 : Int32} {J9 : Nat → Nat → Int64} (h : fX12_liftRow σ I J R t x1 = some J9) : Con G l yX12_liftRow cX12_liftRow 7 none 0 0 [vR (some t), vI x1] (σ, I, J, D, R) (σ, I, J9, D, R) none := by
  unfold fX12_liftRow at h
  refine Con.mk (by decide +kernel) rfl (Nat.le_of_ble_eq_true rfl) ?_
  show WX12_liftRow G l σ (σ, I, J9, D, R) none (σ, I, J, D, R) 0 _ []
  refine r_iconst (pc := 0) dX12_liftRow_0 kc_iconst_0 ?_
  refine r_istore_n (pc := 1) (L' := [(2, vI (0 : Int32)), (0, vR (some t)), (1, vI x1)]) dX12_liftRow_1 rfl (by decide) rfl ?_
  refine r_sub [1, 2, 0] rfl ?_
  exact wX12_liftRow_l2 _ _ _ _ h
abbrev WX12_clear (G : Gx) (l : Launch) (σ0 : Shp) (X1 : Stt) (rv : Option SV) : Stt → Nat → List (Nat × SV) → List SV → Prop := Wm G l yX12_clear cX12_clear 12 none (fun _ => True) (rmx 3 92 σ0 X1.1) σ0 (Qmx G σ0 X1 rv)
def fX12_clear_l191 (q154 : (Nat → Nat → Int32) → (Nat → Nat → Int64) → (Int32) → (Int32) → (Option ((Nat → Nat → Int32) × (Nat → Nat → Int64)))) (σ : Shp) (R : Nat → Nat → Option Nat) (t : Nat) : Nat → (Nat → Nat → Int32) → (Nat → Nat → Int64) → (Int32) → (Int32) → (Int64) → (Int64) → (Int32) → Option ((Nat → Nat → Int32) × (Nat → Nat → Int64))
  | 0, _, _, _, _, _, _, _ => none
  | n + 1, I, J, x1, x6, x7, x9, x11 =>
    if (8 : Int32) ≤ x11 then
      let v25 := x6 + (1 : Int32)
      q154 I J x1 v25
    else
      if kdx σ t = 13 then
      if x6 = (I t 114) then
        let v27 := x6 + (1 : Int32)
        q154 I J x1 v27
      else
        if x7 = (0 : Int64) then
          let v28 := x6 + (1 : Int32)
          q154 I J x1 v28
        else
          (fX12_less σ J R t (((8 : Int32) * x6) + x11) x7 x9 (((8 : Int32) * (I t 114)) + x11)).bind fun J29 =>
          let v31 := x11 + (1 : Int32)
          fX12_clear_l191 q154 σ R t n I J29 x1 x6 x7 x9 v31
      else none
theorem wX12_clear_l191 {G : Gx} {l : Launch} {σ : Shp} {D : Nat → Nat → UInt64} {R : Nat → Nat → Option Nat} {t : Nat} {I9 : Nat → Nat → Int32} {J9 : Nat → Nat → Int64} {q154 : (Nat → Nat → Int32) → (Nat → Nat → Int64) → (Int32) → (Int32) → (Option ((Nat → Nat → Int32) × (Nat → Nat → Int64)))} (hq154 : ∀ (I : Nat → Nat → Int32) (J : Nat → Nat → Int64) (x1 : Int32) (x6 : Int32), q154 I J x1 x6 = some (I9, J9) → WX12_clear G l σ (σ, I9, J9, D, R) none (σ, I, J, D, R) 154 [(0, vR (some t)), (1, vI x1), (6, vI x6)] []) : ∀ (n : Nat) (I : Nat → Nat → Int32) (J : Nat → Nat → Int64) (x1 : Int32) (x6 : Int32) (x7 : Int64) (x9 : Int64) (x11 : Int32), fX12_clear_l191 q154 σ R t n I J x1 x6 x7 x9 x11 = some (I9, J9) → WX12_clear G l σ (σ, I9, J9, D, R) none (σ, I, J, D, R) 191 [(0, vR (some t)), (1, vI x1), (6, vI x6), (7, vL x7), (9, vL x9), (11, vI x11)] [] := by
  intro n
  induction n with
  | zero =>
    intro I J x1 x6 x7 x9 x11 h
    have h : none = some _ := h
    cases h
  | succ n ih =>
    intro I J x1 x6 x7 x9 x11 h
    rw [fX12_clear_l191] at h
    refine r_iload (pc := 191) dX12_clear_191 5 rfl ?_
    refine r_bipush (pc := 193) dX12_clear_193 kc_bipush_8 ?_
    refine r_icmp_ge (pc := 195) (tgt := 246) dX12_clear_195 rfl (fun c => ?_) (fun c => ?_)
    · have h := it h c
      refine r_iinc (pc := 246) (v := (x6 + (1 : Int32))) (L' := [(6, vI (x6 + (1 : Int32))), (0, vR (some t)), (1, vI x1), (7, vL x7), (9, vL x9), (11, vI x11)]) dX12_clear_246 2 rfl (kc_inc_1 _) (by decide) rfl ?_
      refine r_goto (pc := 249) (tgt := 154) dX12_clear_249 rfl ?_
      refine r_sub [1, 2, 0] rfl ?_
      exact hq154 _ _ _ _ h
    · have h := ie h c
      refine r_iload (pc := 198) dX12_clear_198 2 rfl ?_
      refine r_aload_n (pc := 200) dX12_clear_200 rfl 0 rfl ?_
      obtain ⟨g26, h⟩ := gd h
      refine r_getI (pc := 201) dX12_clear_201 fgX12_741 rfl g26 ?_
      refine r_icmp_eq (pc := 204) (tgt := 246) dX12_clear_204 rfl (fun c => ?_) (fun c => ?_)
      · have h := it h c
        refine r_iinc (pc := 246) (v := (x6 + (1 : Int32))) (L' := [(6, vI (x6 + (1 : Int32))), (0, vR (some t)), (1, vI x1), (7, vL x7), (9, vL x9), (11, vI x11)]) dX12_clear_246 2 rfl (kc_inc_1 _) (by decide) rfl ?_
        refine r_goto (pc := 249) (tgt := 154) dX12_clear_249 rfl ?_
        refine r_sub [1, 2, 0] rfl ?_
        exact hq154 _ _ _ _ h
      · have h := ie h c
        refine r_lload (pc := 207) dX12_clear_207 3 rfl ?_
        refine r_lconst (pc := 209) dX12_clear_209 kc_lconst_0 ?_
        refine r_lcmp (pc := 210) dX12_clear_210 ?_
        refine r_if_eq (pc := 211) (tgt := 246) dX12_clear_211 rfl (fun c => ?_) (fun c => ?_)
        · have h := it h (lgc_eq.mp c)
          refine r_iinc (pc := 246) (v := (x6 + (1 : Int32))) (L' := [(6, vI (x6 + (1 : Int32))), (0, vR (some t)), (1, vI x1), (7, vL x7), (9, vL x9), (11, vI x11)]) dX12_clear_246 2 rfl (kc_inc_1 _) (by decide) rfl ?_
          refine r_goto (pc := 249) (tgt := 154) dX12_clear_249 rfl ?_
          refine r_sub [1, 2, 0] rfl ?_
          exact hq154 _ _ _ _ h
        · have h := ie h (fun q => c (lgc_eq.mpr q))
          refine r_aload_n (pc := 214) dX12_clear_214 rfl 0 rfl ?_
          refine r_bipush (pc := 215) dX12_clear_215 kc_bipush_8 ?_
          refine r_iload (pc := 217) dX12_clear_217 2 rfl ?_
          refine r_imul (pc := 219) dX12_clear_219 ?_
          refine r_iload (pc := 220) dX12_clear_220 5 rfl ?_
          refine r_iadd (pc := 222) dX12_clear_222 ?_
          refine r_lload (pc := 223) dX12_clear_223 3 rfl ?_
          refine r_lload (pc := 225) dX12_clear_225 4 rfl ?_
          refine r_bipush (pc := 227) dX12_clear_227 kc_bipush_8 ?_
          refine r_aload_n (pc := 229) dX12_clear_229 rfl 0 rfl ?_
          refine r_getI (pc := 230) dX12_clear_230 fgX12_741 rfl g26 ?_
          refine r_imul (pc := 233) dX12_clear_233 ?_
          refine r_iload (pc := 234) dX12_clear_234 5 rfl ?_
          refine r_iadd (pc := 236) dX12_clear_236 ?_
          obtain ⟨J29, hc30, h⟩ := ob h
          refine r_callV0 (pc := 237) (av := [vI (((8 : Int32) * x6) + x11), vL x7, vL x9, vI (((8 : Int32) * (I t 114)) + x11)]) (S := []) dX12_clear_237 (kX12_less hc30) g26 rfl mkX12_744 mwX12_less rfl ⟨Nat.le_of_ble_eq_true rfl, Nat.le_of_ble_eq_true rfl⟩ (Nat.le_of_ble_eq_true rfl) ⟨Nat.le_refl _, Nat.le_refl _⟩ (fun b => b) ?_
          refine r_iinc (pc := 240) (v := (x11 + (1 : Int32))) (L' := [(11, vI (x11 + (1 : Int32))), (0, vR (some t)), (1, vI x1), (6, vI x6), (7, vL x7), (9, vL x9)]) dX12_clear_240 5 rfl (kc_inc_1 _) (by decide) rfl ?_
          refine r_goto (pc := 243) (tgt := 191) dX12_clear_243 rfl ?_
          refine r_sub [1, 2, 3, 4, 5, 0] rfl ?_
          exact ih _ _ _ _ _ _ _ h
def fX12_clear_l154  (σ : Shp) (R : Nat → Nat → Option Nat) (t : Nat) : Nat → (Nat → Nat → Int32) → (Nat → Nat → Int64) → (Int32) → (Int32) → Option ((Nat → Nat → Int32) × (Nat → Nat → Int64))
  | 0, _, _, _, _ => none
  | n + 1, I, J, x1, x6 =>
    if (3 : Int32) ≤ x6 then
      if kdx σ t = 13 then
      ((R t 113) : Option Nat).bind fun a11 =>
      if kdx σ a11 = 20 then
      if ¬ ((I t 114) < 0 ∨ lnx σ a11 ≤ Int32.toNatClampNeg (I t 114)) then
      let I14 := u2 I a11 (Int32.toNatClampNeg (I t 114)) x1
      let I15 := u2 I14 t 114 ((I14 t 114) + (1 : Int32))
      some (I15, J)
      else none
      else none
      else none
    else
      if kdx σ t = 13 then
      ((R t 111) : Option Nat).bind fun a17 =>
      if kdx σ a17 = 21 then
      if ¬ ((((8 : Int32) * x6) + x1) < 0 ∨ lnx σ a17 ≤ Int32.toNatClampNeg (((8 : Int32) * x6) + x1)) then
      let v20 := (J a17 (Int32.toNatClampNeg (((8 : Int32) * x6) + x1)))
      ((R t 112) : Option Nat).bind fun a21 =>
      if kdx σ a21 = 21 then
      if ¬ ((((8 : Int32) * x6) + x1) < 0 ∨ lnx σ a21 ≤ Int32.toNatClampNeg (((8 : Int32) * x6) + x1)) then
      let v24 := (J a21 (Int32.toNatClampNeg (((8 : Int32) * x6) + x1)))
      fX12_clear_l191 (fX12_clear_l154 σ R t n) σ R t FUx I J x1 x6 v20 v24 (0 : Int32)
      else none
      else none
      else none
      else none
      else none
theorem wX12_clear_l154 {G : Gx} {l : Launch} {σ : Shp} {D : Nat → Nat → UInt64} {R : Nat → Nat → Option Nat} {t : Nat} {I9 : Nat → Nat → Int32} {J9 : Nat → Nat → Int64} : ∀ (n : Nat) (I : Nat → Nat → Int32) (J : Nat → Nat → Int64) (x1 : Int32) (x6 : Int32), fX12_clear_l154 σ R t n I J x1 x6 = some (I9, J9) → WX12_clear G l σ (σ, I9, J9, D, R) none (σ, I, J, D, R) 154 [(0, vR (some t)), (1, vI x1), (6, vI x6)] [] := by
  intro n
  induction n with
  | zero =>
    intro I J x1 x6 h
    have h : none = some _ := h
    cases h
  | succ n ih =>
    intro I J x1 x6 h
    rw [fX12_clear_l154] at h
    refine r_iload (pc := 154) dX12_clear_154 2 rfl ?_
    refine r_iconst (pc := 156) dX12_clear_156 kc_iconst_3 ?_
    refine r_icmp_ge (pc := 157) (tgt := 252) dX12_clear_157 rfl (fun c => ?_) (fun c => ?_)
    · have h := it h c
      refine r_aload_n (pc := 252) dX12_clear_252 rfl 0 rfl ?_
      obtain ⟨g10, h⟩ := gd h
      obtain ⟨a11, ha11, h⟩ := ob h
      refine r_getS (pc := 253) dX12_clear_253 fgX12_263 rfl g10 ha11 ?_
      refine r_aload_n (pc := 256) dX12_clear_256 rfl 0 rfl ?_
      refine r_getI (pc := 257) dX12_clear_257 fgX12_741 rfl g10 ?_
      refine r_iload_n (pc := 260) dX12_clear_260 rfl 1 rfl ?_
      obtain ⟨g12, h⟩ := gd h
      obtain ⟨g13, h⟩ := gd h
      refine r_iastore (pc := 261) dX12_clear_261 g12 g13 ?_
      refine r_aload_n (pc := 262) dX12_clear_262 rfl 0 rfl ?_
      refine r_dup (pc := 263) dX12_clear_263 rfl ?_
      refine r_getI (pc := 264) dX12_clear_264 fgX12_741 rfl g10 ?_
      refine r_iconst (pc := 267) dX12_clear_267 kc_iconst_1 ?_
      refine r_iadd (pc := 268) dX12_clear_268 ?_
      refine r_putI (pc := 269) dX12_clear_269 fwX12_741 rfl g10 ?_
      cases h
      exact r_vret dX12_clear_272
    · have h := ie h c
      refine r_aload_n (pc := 160) dX12_clear_160 rfl 0 rfl ?_
      obtain ⟨g16, h⟩ := gd h
      obtain ⟨a17, ha17, h⟩ := ob h
      refine r_getS (pc := 161) dX12_clear_161 fgX12_257 rfl g16 ha17 ?_
      refine r_bipush (pc := 164) dX12_clear_164 kc_bipush_8 ?_
      refine r_iload (pc := 166) dX12_clear_166 2 rfl ?_
      refine r_imul (pc := 168) dX12_clear_168 ?_
      refine r_iload_n (pc := 169) dX12_clear_169 rfl 1 rfl ?_
      refine r_iadd (pc := 170) dX12_clear_170 ?_
      obtain ⟨g18, h⟩ := gd h
      obtain ⟨g19, h⟩ := gd h
      refine r_laload (pc := 171) dX12_clear_171 g18 g19 ?_
      refine r_lstore (pc := 172) (L' := [(7, vL (J a17 (Int32.toNatClampNeg (((8 : Int32) * x6) + x1)))), (0, vR (some t)), (1, vI x1), (6, vI x6)]) dX12_clear_172 (by decide) rfl ?_
      refine r_aload_n (pc := 174) dX12_clear_174 rfl 1 rfl ?_
      obtain ⟨a21, ha21, h⟩ := ob h
      refine r_getS (pc := 175) dX12_clear_175 fgX12_260 rfl g16 ha21 ?_
      refine r_bipush (pc := 178) dX12_clear_178 kc_bipush_8 ?_
      refine r_iload (pc := 180) dX12_clear_180 3 rfl ?_
      refine r_imul (pc := 182) dX12_clear_182 ?_
      refine r_iload_n (pc := 183) dX12_clear_183 rfl 2 rfl ?_
      refine r_iadd (pc := 184) dX12_clear_184 ?_
      obtain ⟨g22, h⟩ := gd h
      obtain ⟨g23, h⟩ := gd h
      refine r_laload (pc := 185) dX12_clear_185 g22 g23 ?_
      refine r_lstore (pc := 186) (L' := [(9, vL (J a21 (Int32.toNatClampNeg (((8 : Int32) * x6) + x1)))), (7, vL (J a17 (Int32.toNatClampNeg (((8 : Int32) * x6) + x1)))), (0, vR (some t)), (1, vI x1), (6, vI x6)]) dX12_clear_186 (by decide) rfl ?_
      refine r_iconst (pc := 188) dX12_clear_188 kc_iconst_0 ?_
      refine r_istore (pc := 189) (L' := [(11, vI (0 : Int32)), (9, vL (J a21 (Int32.toNatClampNeg (((8 : Int32) * x6) + x1)))), (7, vL (J a17 (Int32.toNatClampNeg (((8 : Int32) * x6) + x1)))), (0, vR (some t)), (1, vI x1), (6, vI x6)]) dX12_clear_189 (by decide) rfl ?_
      refine r_sub [3, 4, 5, 2, 1, 0] rfl ?_
      exact wX12_clear_l191 ih _ _ _ _ _ _ _ _ h
def fX12_clear_l34  (σ : Shp) (R : Nat → Nat → Option Nat) (t : Nat) : Nat → (Nat → Nat → Int32) → (Nat → Nat → Int64) → (Int32) → (Int64) → (Int64) → (Int32) → Option ((Nat → Nat → Int32) × (Nat → Nat → Int64))
  | 0, _, _, _, _, _, _ => none
  | n + 1, I, J, x1, x2, x4, x6 =>
    if (8 : Int32) ≤ x6 then
      fX12_clear_l154 σ R t FUx I J x1 (0 : Int32)
    else
      if kdx σ t = 13 then
      ((R t 111) : Option Nat).bind fun a33 =>
      if kdx σ a33 = 21 then
      if ¬ ((((8 : Int32) * (I t 114)) + x6) < 0 ∨ lnx σ a33 ≤ Int32.toNatClampNeg (((8 : Int32) * (I t 114)) + x6)) then
      (fX12_common (J a33 (Int32.toNatClampNeg (((8 : Int32) * (I t 114)) + x6))) x2).bind fun r36 =>
      ((R t 112) : Option Nat).bind fun a38 =>
      if kdx σ a38 = 21 then
      if ¬ ((((8 : Int32) * (I t 114)) + x6) < 0 ∨ lnx σ a38 ≤ Int32.toNatClampNeg (((8 : Int32) * (I t 114)) + x6)) then
      (fX12_common x4 (J a38 (Int32.toNatClampNeg (((8 : Int32) * (I t 114)) + x6)))).bind fun r41 =>
      if ¬ r36 = 0 then
      if ¬ r41 = 0 then
      (fX12_fraction σ J R t (((8 : Int32) * (I t 114)) + x6) (((J a33 (Int32.toNatClampNeg (((8 : Int32) * (I t 114)) + x6))) / r36) * (x4 / r41)) (((J a38 (Int32.toNatClampNeg (((8 : Int32) * (I t 114)) + x6))) / r41) * (x2 / r36))).bind fun J45 =>
      let v47 := x6 + (1 : Int32)
      fX12_clear_l34 σ R t n I J45 x1 x2 x4 v47
      else none
      else none
      else none
      else none
      else none
      else none
      else none
theorem wX12_clear_l34 {G : Gx} {l : Launch} {σ : Shp} {D : Nat → Nat → UInt64} {R : Nat → Nat → Option Nat} {t : Nat} {I9 : Nat → Nat → Int32} {J9 : Nat → Nat → Int64} : ∀ (n : Nat) (I : Nat → Nat → Int32) (J : Nat → Nat → Int64) (x1 : Int32) (x2 : Int64) (x4 : Int64) (x6 : Int32), fX12_clear_l34 σ R t n I J x1 x2 x4 x6 = some (I9, J9) → WX12_clear G l σ (σ, I9, J9, D, R) none (σ, I, J, D, R) 34 [(0, vR (some t)), (1, vI x1), (2, vL x2), (4, vL x4), (6, vI x6)] [] := by
  intro n
  induction n with
  | zero =>
    intro I J x1 x2 x4 x6 h
    have h : none = some _ := h
    cases h
  | succ n ih =>
    intro I J x1 x2 x4 x6 h
    rw [fX12_clear_l34] at h
    refine r_iload (pc := 34) dX12_clear_34 4 rfl ?_
    refine r_bipush (pc := 36) dX12_clear_36 kc_bipush_8 ?_
    refine r_icmp_ge (pc := 38) (tgt := 151) dX12_clear_38 rfl (fun c => ?_) (fun c => ?_)
    · have h := it h c
      refine r_iconst (pc := 151) dX12_clear_151 kc_iconst_0 ?_
      refine r_istore (pc := 152) (L' := [(6, vI (0 : Int32)), (0, vR (some t)), (1, vI x1), (2, vL x2), (4, vL x4)]) dX12_clear_152 (by decide) rfl ?_
      refine r_sub [1, 2, 0] rfl ?_
      exact wX12_clear_l154 _ _ _ _ _ h
    · have h := ie h c
      refine r_aload_n (pc := 41) dX12_clear_41 rfl 0 rfl ?_
      obtain ⟨g32, h⟩ := gd h
      obtain ⟨a33, ha33, h⟩ := ob h
      refine r_getS (pc := 42) dX12_clear_42 fgX12_257 rfl g32 ha33 ?_
      refine r_bipush (pc := 45) dX12_clear_45 kc_bipush_8 ?_
      refine r_aload_n (pc := 47) dX12_clear_47 rfl 0 rfl ?_
      refine r_getI (pc := 48) dX12_clear_48 fgX12_741 rfl g32 ?_
      refine r_imul (pc := 51) dX12_clear_51 ?_
      refine r_iload (pc := 52) dX12_clear_52 4 rfl ?_
      refine r_iadd (pc := 54) dX12_clear_54 ?_
      obtain ⟨g34, h⟩ := gd h
      obtain ⟨g35, h⟩ := gd h
      refine r_laload (pc := 55) dX12_clear_55 g34 g35 ?_
      refine r_lload_n (pc := 56) dX12_clear_56 rfl 2 rfl ?_
      obtain ⟨r36, hc37, h⟩ := ob h
      refine r_callS1 (pc := 57) (av := [vL (J a33 (Int32.toNatClampNeg (((8 : Int32) * (I t 114)) + x6))), vL x2]) (S := []) dX12_clear_57 (kX12_common hc37) mkX12_734 mwX12_common rfl ⟨Nat.le_of_ble_eq_true rfl, Nat.le_of_ble_eq_true rfl⟩ (Nat.le_of_ble_eq_true rfl) ⟨Nat.le_refl _, Nat.le_refl _⟩ (fun b => b) ?_
      refine r_lstore (pc := 60) (L' := [(7, vL r36), (0, vR (some t)), (1, vI x1), (2, vL x2), (4, vL x4), (6, vI x6)]) dX12_clear_60 (by decide) rfl ?_
      refine r_lload (pc := 62) dX12_clear_62 4 rfl ?_
      refine r_aload_n (pc := 64) dX12_clear_64 rfl 1 rfl ?_
      obtain ⟨a38, ha38, h⟩ := ob h
      refine r_getS (pc := 65) dX12_clear_65 fgX12_260 rfl g32 ha38 ?_
      refine r_bipush (pc := 68) dX12_clear_68 kc_bipush_8 ?_
      refine r_aload_n (pc := 70) dX12_clear_70 rfl 1 rfl ?_
      refine r_getI (pc := 71) dX12_clear_71 fgX12_741 rfl g32 ?_
      refine r_imul (pc := 74) dX12_clear_74 ?_
      refine r_iload (pc := 75) dX12_clear_75 5 rfl ?_
      refine r_iadd (pc := 77) dX12_clear_77 ?_
      obtain ⟨g39, h⟩ := gd h
      obtain ⟨g40, h⟩ := gd h
      refine r_laload (pc := 78) dX12_clear_78 g39 g40 ?_
      obtain ⟨r41, hc42, h⟩ := ob h
      refine r_callS1 (pc := 79) (av := [vL x4, vL (J a38 (Int32.toNatClampNeg (((8 : Int32) * (I t 114)) + x6)))]) (S := []) dX12_clear_79 (kX12_common hc42) mkX12_734 mwX12_common rfl ⟨Nat.le_of_ble_eq_true rfl, Nat.le_of_ble_eq_true rfl⟩ (Nat.le_of_ble_eq_true rfl) ⟨Nat.le_refl _, Nat.le_refl _⟩ (fun b => b) ?_
      refine r_lstore (pc := 82) (L' := [(9, vL r41), (7, vL r36), (0, vR (some t)), (1, vI x1), (2, vL x2), (4, vL x4), (6, vI x6)]) dX12_clear_82 (by decide) rfl ?_
      refine r_aload_n (pc := 84) dX12_clear_84 rfl 2 rfl ?_
      refine r_bipush (pc := 85) dX12_clear_85 kc_bipush_8 ?_
      refine r_aload_n (pc := 87) dX12_clear_87 rfl 2 rfl ?_
      refine r_getI (pc := 88) dX12_clear_88 fgX12_741 rfl g32 ?_
      refine r_imul (pc := 91) dX12_clear_91 ?_
      refine r_iload (pc := 92) dX12_clear_92 6 rfl ?_
      refine r_iadd (pc := 94) dX12_clear_94 ?_
      refine r_aload_n (pc := 95) dX12_clear_95 rfl 2 rfl ?_
      refine r_getS (pc := 96) dX12_clear_96 fgX12_257 rfl g32 ha33 ?_
      refine r_bipush (pc := 99) dX12_clear_99 kc_bipush_8 ?_
      refine r_aload_n (pc := 101) dX12_clear_101 rfl 2 rfl ?_
      refine r_getI (pc := 102) dX12_clear_102 fgX12_741 rfl g32 ?_
      refine r_imul (pc := 105) dX12_clear_105 ?_
      refine r_iload (pc := 106) dX12_clear_106 6 rfl ?_
      refine r_iadd (pc := 108) dX12_clear_108 ?_
      refine r_laload (pc := 109) dX12_clear_109 g34 g35 ?_
      refine r_lload (pc := 110) dX12_clear_110 1 rfl ?_
      obtain ⟨g43, h⟩ := gd h
      refine r_ldiv (pc := 112) dX12_clear_112 g43 ?_
      refine r_lload (pc := 113) dX12_clear_113 5 rfl ?_
      refine r_lload (pc := 115) dX12_clear_115 0 rfl ?_
      obtain ⟨g44, h⟩ := gd h
      refine r_ldiv (pc := 117) dX12_clear_117 g44 ?_
      refine r_lmul (pc := 118) dX12_clear_118 ?_
      refine r_aload_n (pc := 119) dX12_clear_119 rfl 2 rfl ?_
      refine r_getS (pc := 120) dX12_clear_120 fgX12_260 rfl g32 ha38 ?_
      refine r_bipush (pc := 123) dX12_clear_123 kc_bipush_8 ?_
      refine r_aload_n (pc := 125) dX12_clear_125 rfl 2 rfl ?_
      refine r_getI (pc := 126) dX12_clear_126 fgX12_741 rfl g32 ?_
      refine r_imul (pc := 129) dX12_clear_129 ?_
      refine r_iload (pc := 130) dX12_clear_130 6 rfl ?_
      refine r_iadd (pc := 132) dX12_clear_132 ?_
      refine r_laload (pc := 133) dX12_clear_133 g39 g40 ?_
      refine r_lload (pc := 134) dX12_clear_134 0 rfl ?_
      refine r_ldiv (pc := 136) dX12_clear_136 g44 ?_
      refine r_lload_n (pc := 137) dX12_clear_137 rfl 4 rfl ?_
      refine r_lload (pc := 138) dX12_clear_138 1 rfl ?_
      refine r_ldiv (pc := 140) dX12_clear_140 g43 ?_
      refine r_lmul (pc := 141) dX12_clear_141 ?_
      obtain ⟨J45, hc46, h⟩ := ob h
      refine r_callV0 (pc := 142) (av := [vI (((8 : Int32) * (I t 114)) + x6), vL (((J a33 (Int32.toNatClampNeg (((8 : Int32) * (I t 114)) + x6))) / r36) * (x4 / r41)), vL (((J a38 (Int32.toNatClampNeg (((8 : Int32) * (I t 114)) + x6))) / r41) * (x2 / r36))]) (S := []) dX12_clear_142 (kX12_fraction hc46) g32 rfl mkX12_737 mwX12_fraction rfl ⟨Nat.le_of_ble_eq_true rfl, Nat.le_of_ble_eq_true rfl⟩ (Nat.le_of_ble_eq_true rfl) ⟨Nat.le_refl _, Nat.le_refl _⟩ (fun b => b) ?_
      refine r_iinc (pc := 145) (v := (x6 + (1 : Int32))) (L' := [(6, vI (x6 + (1 : Int32))), (9, vL r41), (7, vL r36), (0, vR (some t)), (1, vI x1), (2, vL x2), (4, vL x4)]) dX12_clear_145 6 rfl (kc_inc_1 _) (by decide) rfl ?_
      refine r_goto (pc := 148) (tgt := 34) dX12_clear_148 rfl ?_
      refine r_sub [3, 4, 5, 6, 0] rfl ?_
      exact ih _ _ _ _ _ _ h
def fX12_clear (σ : Shp) (I : Nat → Nat → Int32) (J : Nat → Nat → Int64) (R : Nat → Nat → Option Nat) (t : Nat) (x1 : Int32) : Option ((Nat → Nat → Int32) × (Nat → Nat → Int64)) :=
  if kdx σ t = 13 then
  ((R t 111) : Option Nat).bind fun a2 =>
  if kdx σ a2 = 21 then
  if ¬ ((((8 : Int32) * (I t 114)) + x1) < 0 ∨ lnx σ a2 ≤ Int32.toNatClampNeg (((8 : Int32) * (I t 114)) + x1)) then
  let v5 := (J a2 (Int32.toNatClampNeg (((8 : Int32) * (I t 114)) + x1)))
  ((R t 112) : Option Nat).bind fun a6 =>
  if kdx σ a6 = 21 then
  if ¬ ((((8 : Int32) * (I t 114)) + x1) < 0 ∨ lnx σ a6 ≤ Int32.toNatClampNeg (((8 : Int32) * (I t 114)) + x1)) then
  let v9 := (J a6 (Int32.toNatClampNeg (((8 : Int32) * (I t 114)) + x1)))
  fX12_clear_l34 σ R t FUx I J x1 v5 v9 (0 : Int32)
  else none
  else none
  else none
  else none
  else none
theorem kX12_clear {G : Gx} {l : Launch} {σ : Shp} {I : Nat → Nat → Int32} {J : Nat → Nat → Int64} {D : Nat → Nat → UInt64} {R : Nat → Nat → Option Nat} {t : Nat} {x1 : Int32} {I9 : Nat → Nat → Int32} {J9 : Nat → Nat → Int64} (h : fX12_clear σ I J R t x1 = some (I9, J9)) : Con G l yX12_clear cX12_clear 12 none 3 92 [vR (some t), vI x1] (σ, I, J, D, R) (σ, I9, J9, D, R) none := by
  unfold fX12_clear at h
  refine Con.mk (by decide +kernel) rfl (Nat.le_of_ble_eq_true rfl) ?_
  show WX12_clear G l σ (σ, I9, J9, D, R) none (σ, I, J, D, R) 0 _ []
  refine r_aload_n (pc := 0) dX12_clear_0 rfl 0 rfl ?_
  obtain ⟨g1, h⟩ := gd h
  obtain ⟨a2, ha2, h⟩ := ob h
  refine r_getS (pc := 1) dX12_clear_1 fgX12_257 rfl g1 ha2 ?_
  refine r_bipush (pc := 4) dX12_clear_4 kc_bipush_8 ?_
  refine r_aload_n (pc := 6) dX12_clear_6 rfl 0 rfl ?_
  refine r_getI (pc := 7) dX12_clear_7 fgX12_741 rfl g1 ?_
  refine r_imul (pc := 10) dX12_clear_10 ?_
  refine r_iload_n (pc := 11) dX12_clear_11 rfl 1 rfl ?_
  refine r_iadd (pc := 12) dX12_clear_12 ?_
  obtain ⟨g3, h⟩ := gd h
  obtain ⟨g4, h⟩ := gd h
  refine r_laload (pc := 13) dX12_clear_13 g3 g4 ?_
  refine r_lstore_n (pc := 14) (L' := [(2, vL (J a2 (Int32.toNatClampNeg (((8 : Int32) * (I t 114)) + x1)))), (0, vR (some t)), (1, vI x1)]) dX12_clear_14 rfl (by decide) rfl ?_
  refine r_aload_n (pc := 15) dX12_clear_15 rfl 1 rfl ?_
  obtain ⟨a6, ha6, h⟩ := ob h
  refine r_getS (pc := 16) dX12_clear_16 fgX12_260 rfl g1 ha6 ?_
  refine r_bipush (pc := 19) dX12_clear_19 kc_bipush_8 ?_
  refine r_aload_n (pc := 21) dX12_clear_21 rfl 1 rfl ?_
  refine r_getI (pc := 22) dX12_clear_22 fgX12_741 rfl g1 ?_
  refine r_imul (pc := 25) dX12_clear_25 ?_
  refine r_iload_n (pc := 26) dX12_clear_26 rfl 2 rfl ?_
  refine r_iadd (pc := 27) dX12_clear_27 ?_
  obtain ⟨g7, h⟩ := gd h
  obtain ⟨g8, h⟩ := gd h
  refine r_laload (pc := 28) dX12_clear_28 g7 g8 ?_
  refine r_lstore (pc := 29) (L' := [(4, vL (J a6 (Int32.toNatClampNeg (((8 : Int32) * (I t 114)) + x1)))), (2, vL (J a2 (Int32.toNatClampNeg (((8 : Int32) * (I t 114)) + x1)))), (0, vR (some t)), (1, vI x1)]) dX12_clear_29 (by decide) rfl ?_
  refine r_iconst (pc := 31) dX12_clear_31 kc_iconst_0 ?_
  refine r_istore (pc := 32) (L' := [(6, vI (0 : Int32)), (4, vL (J a6 (Int32.toNatClampNeg (((8 : Int32) * (I t 114)) + x1)))), (2, vL (J a2 (Int32.toNatClampNeg (((8 : Int32) * (I t 114)) + x1)))), (0, vR (some t)), (1, vI x1)]) dX12_clear_32 (by decide) rfl ?_
  refine r_sub [3, 4, 2, 1, 0] rfl ?_
  exact wX12_clear_l34 _ _ _ _ _ _ _ h
abbrev WX12_makeWitness (G : Gx) (l : Launch) (σ0 : Shp) (X1 : Stt) (rv : Option SV) : Stt → Nat → List (Nat × SV) → List SV → Prop := Wm G l yX12_makeWitness cX12_makeWitness 9 none (fun _ => True) (rmx 1 29 σ0 X1.1) σ0 (Qmx G σ0 X1 rv)
def fX12_makeWitness_l142  (σ : Shp) (R : Nat → Nat → Option Nat) (t : Nat) : Nat → (Nat → Nat → Int64) → (Int64) → (Int64) → (Int32) → Option ((Nat → Nat → Int64))
  | 0, _, _, _, _ => none
  | n + 1, J, x4, x6, x8 =>
    if (3 : Int32) ≤ x8 then
      some J
    else
      if kdx σ t = 13 then
      ((R t 119) : Option Nat).bind fun a2 =>
      if kdx σ a2 = 21 then
      if ¬ (x8 < 0 ∨ lnx σ a2 ≤ Int32.toNatClampNeg x8) then
      if ¬ x4 = 0 then
      if (0 : Int64) ≤ x6 then
        let J6 := u2 J a2 (Int32.toNatClampNeg x8) (((J a2 (Int32.toNatClampNeg x8)) / x4) * (1 : Int64))
        let v7 := x8 + (1 : Int32)
        fX12_makeWitness_l142 σ R t n J6 x4 x6 v7
      else
        let J8 := u2 J a2 (Int32.toNatClampNeg x8) (((J a2 (Int32.toNatClampNeg x8)) / x4) * (-1 : Int64))
        let v9 := x8 + (1 : Int32)
        fX12_makeWitness_l142 σ R t n J8 x4 x6 v9
      else none
      else none
      else none
      else none
theorem wX12_makeWitness_l142 {G : Gx} {l : Launch} {σ : Shp} {I : Nat → Nat → Int32} {D : Nat → Nat → UInt64} {R : Nat → Nat → Option Nat} {t : Nat} {J9 : Nat → Nat → Int64} : ∀ (n : Nat) (J : Nat → Nat → Int64) (x4 : Int64) (x6 : Int64) (x8 : Int32), fX12_makeWitness_l142 σ R t n J x4 x6 x8 = some J9 → WX12_makeWitness G l σ (σ, I, J9, D, R) none (σ, I, J, D, R) 142 [(0, vR (some t)), (4, vL x4), (6, vL x6), (8, vI x8)] [] := by
  intro n
  induction n with
  | zero =>
    intro J x4 x6 x8 h
    have h : none = some _ := h
    cases h
  | succ n ih =>
    intro J x4 x6 x8 h
    rw [fX12_makeWitness_l142] at h
    refine r_iload (pc := 142) dX12_makeWitness_142 3 rfl ?_
    refine r_iconst (pc := 144) dX12_makeWitness_144 kc_iconst_3 ?_
    refine r_icmp_ge (pc := 145) (tgt := 186) dX12_makeWitness_145 rfl (fun c => ?_) (fun c => ?_)
    · have h := it h c
      cases h
      exact r_vret dX12_makeWitness_186
    · have h := ie h c
      refine r_aload_n (pc := 148) dX12_makeWitness_148 rfl 0 rfl ?_
      obtain ⟨g1, h⟩ := gd h
      obtain ⟨a2, ha2, h⟩ := ob h
      refine r_getS (pc := 149) dX12_makeWitness_149 fgX12_272 rfl g1 ha2 ?_
      refine r_iload (pc := 152) dX12_makeWitness_152 3 rfl ?_
      refine r_aload_n (pc := 154) dX12_makeWitness_154 rfl 0 rfl ?_
      refine r_getS (pc := 155) dX12_makeWitness_155 fgX12_272 rfl g1 ha2 ?_
      refine r_iload (pc := 158) dX12_makeWitness_158 3 rfl ?_
      obtain ⟨g3, h⟩ := gd h
      obtain ⟨g4, h⟩ := gd h
      refine r_laload (pc := 160) dX12_makeWitness_160 g3 g4 ?_
      refine r_lload (pc := 161) dX12_makeWitness_161 1 rfl ?_
      obtain ⟨g5, h⟩ := gd h
      refine r_ldiv (pc := 163) dX12_makeWitness_163 g5 ?_
      refine r_lload (pc := 164) dX12_makeWitness_164 2 rfl ?_
      refine r_lconst (pc := 166) dX12_makeWitness_166 kc_lconst_0 ?_
      refine r_lcmp (pc := 167) dX12_makeWitness_167 ?_
      refine r_ifge (pc := 168) (tgt := 177) dX12_makeWitness_168 rfl (fun c => ?_) (fun c => ?_)
      · have h := it h (lgc_ge.mp c)
        refine r_lconst (pc := 177) dX12_makeWitness_177 kc_lconst_1 ?_
        refine r_lmul (pc := 178) dX12_makeWitness_178 ?_
        refine r_lastore (pc := 179) dX12_makeWitness_179 g3 g4 ?_
        refine r_iinc (pc := 180) (v := (x8 + (1 : Int32))) (L' := [(8, vI (x8 + (1 : Int32))), (0, vR (some t)), (4, vL x4), (6, vL x6)]) dX12_makeWitness_180 3 rfl (kc_inc_1 _) (by decide) rfl ?_
        refine r_goto (pc := 183) (tgt := 142) dX12_makeWitness_183 rfl ?_
        refine r_sub [1, 2, 3, 0] rfl ?_
        exact ih _ _ _ _ h
      · have h := ie h (fun q => c (lgc_ge.mpr q))
        refine r_ldc2 (pc := 171) dX12_makeWitness_171 clX12_634 ?_
        refine r_goto (pc := 174) (tgt := 178) dX12_makeWitness_174 rfl ?_
        refine r_lmul (pc := 178) dX12_makeWitness_178 ?_
        refine r_lastore (pc := 179) dX12_makeWitness_179 g3 g4 ?_
        refine r_iinc (pc := 180) (v := (x8 + (1 : Int32))) (L' := [(8, vI (x8 + (1 : Int32))), (0, vR (some t)), (4, vL x4), (6, vL x6)]) dX12_makeWitness_180 3 rfl (kc_inc_1 _) (by decide) rfl ?_
        refine r_goto (pc := 183) (tgt := 142) dX12_makeWitness_183 rfl ?_
        refine r_sub [1, 2, 3, 0] rfl ?_
        exact ih _ _ _ _ h
def fX12_makeWitness_l54  (σ : Shp) (R : Nat → Nat → Option Nat) (t : Nat) : Nat → (Nat → Nat → Int64) → (Int32) → (Int64) → (Int64) → (Int64) → (Int32) → Option ((Nat → Nat → Int64))
  | 0, _, _, _, _, _, _ => none
  | n + 1, J, x1, x2, x4, x6, x8 =>
    if (3 : Int32) ≤ x8 then
      fX12_makeWitness_l142 σ R t FUx J x4 x6 (0 : Int32)
    else
      if kdx σ t = 13 then
      ((R t 119) : Option Nat).bind fun a11 =>
      ((R t 111) : Option Nat).bind fun a12 =>
      if kdx σ a12 = 21 then
      if ¬ (((((8 : Int32) * x1) + (5 : Int32)) + x8) < 0 ∨ lnx σ a12 ≤ Int32.toNatClampNeg ((((8 : Int32) * x1) + (5 : Int32)) + x8)) then
      ((R t 112) : Option Nat).bind fun a15 =>
      if kdx σ a15 = 21 then
      if ¬ (((((8 : Int32) * x1) + (5 : Int32)) + x8) < 0 ∨ lnx σ a15 ≤ Int32.toNatClampNeg ((((8 : Int32) * x1) + (5 : Int32)) + x8)) then
      if ¬ (J a15 (Int32.toNatClampNeg ((((8 : Int32) * x1) + (5 : Int32)) + x8))) = 0 then
      if kdx σ a11 = 21 then
      if ¬ (x8 < 0 ∨ lnx σ a11 ≤ Int32.toNatClampNeg x8) then
      let J21 := u2 J a11 (Int32.toNatClampNeg x8) ((J a12 (Int32.toNatClampNeg ((((8 : Int32) * x1) + (5 : Int32)) + x8))) * (x2 / (J a15 (Int32.toNatClampNeg ((((8 : Int32) * x1) + (5 : Int32)) + x8)))))
      (fX12_common x4 (J21 a11 (Int32.toNatClampNeg x8))).bind fun r22 =>
      if x6 = (0 : Int64) then
        let v25 := (J21 a11 (Int32.toNatClampNeg x8))
        let v26 := x8 + (1 : Int32)
        fX12_makeWitness_l54 σ R t n J21 x1 x2 r22 v25 v26
      else
        let v24 := x8 + (1 : Int32)
        fX12_makeWitness_l54 σ R t n J21 x1 x2 r22 x6 v24
      else none
      else none
      else none
      else none
      else none
      else none
      else none
      else none
theorem wX12_makeWitness_l54 {G : Gx} {l : Launch} {σ : Shp} {I : Nat → Nat → Int32} {D : Nat → Nat → UInt64} {R : Nat → Nat → Option Nat} {t : Nat} {J9 : Nat → Nat → Int64} : ∀ (n : Nat) (J : Nat → Nat → Int64) (x1 : Int32) (x2 : Int64) (x4 : Int64) (x6 : Int64) (x8 : Int32), fX12_makeWitness_l54 σ R t n J x1 x2 x4 x6 x8 = some J9 → WX12_makeWitness G l σ (σ, I, J9, D, R) none (σ, I, J, D, R) 54 [(0, vR (some t)), (1, vI x1), (2, vL x2), (4, vL x4), (6, vL x6), (8, vI x8)] [] := by
  intro n
  induction n with
  | zero =>
    intro J x1 x2 x4 x6 x8 h
    have h : none = some _ := h
    cases h
  | succ n ih =>
    intro J x1 x2 x4 x6 x8 h
    rw [fX12_makeWitness_l54] at h
    refine r_iload (pc := 54) dX12_makeWitness_54 5 rfl ?_
    refine r_iconst (pc := 56) dX12_makeWitness_56 kc_iconst_3 ?_
    refine r_icmp_ge (pc := 57) (tgt := 139) dX12_makeWitness_57 rfl (fun c => ?_) (fun c => ?_)
    · have h := it h c
      refine r_iconst (pc := 139) dX12_makeWitness_139 kc_iconst_0 ?_
      refine r_istore (pc := 140) (L' := [(8, vI (0 : Int32)), (0, vR (some t)), (1, vI x1), (2, vL x2), (4, vL x4), (6, vL x6)]) dX12_makeWitness_140 (by decide) rfl ?_
      refine r_sub [1, 4, 5, 0] rfl ?_
      exact wX12_makeWitness_l142 _ _ _ _ _ h
    · have h := ie h c
      refine r_aload_n (pc := 60) dX12_makeWitness_60 rfl 0 rfl ?_
      obtain ⟨g10, h⟩ := gd h
      obtain ⟨a11, ha11, h⟩ := ob h
      refine r_getS (pc := 61) dX12_makeWitness_61 fgX12_272 rfl g10 ha11 ?_
      refine r_iload (pc := 64) dX12_makeWitness_64 5 rfl ?_
      refine r_aload_n (pc := 66) dX12_makeWitness_66 rfl 0 rfl ?_
      obtain ⟨a12, ha12, h⟩ := ob h
      refine r_getS (pc := 67) dX12_makeWitness_67 fgX12_257 rfl g10 ha12 ?_
      refine r_bipush (pc := 70) dX12_makeWitness_70 kc_bipush_8 ?_
      refine r_iload_n (pc := 72) dX12_makeWitness_72 rfl 1 rfl ?_
      refine r_imul (pc := 73) dX12_makeWitness_73 ?_
      refine r_iconst (pc := 74) dX12_makeWitness_74 kc_iconst_5 ?_
      refine r_iadd (pc := 75) dX12_makeWitness_75 ?_
      refine r_iload (pc := 76) dX12_makeWitness_76 5 rfl ?_
      refine r_iadd (pc := 78) dX12_makeWitness_78 ?_
      obtain ⟨g13, h⟩ := gd h
      obtain ⟨g14, h⟩ := gd h
      refine r_laload (pc := 79) dX12_makeWitness_79 g13 g14 ?_
      refine r_lload_n (pc := 80) dX12_makeWitness_80 rfl 2 rfl ?_
      refine r_aload_n (pc := 81) dX12_makeWitness_81 rfl 0 rfl ?_
      obtain ⟨a15, ha15, h⟩ := ob h
      refine r_getS (pc := 82) dX12_makeWitness_82 fgX12_260 rfl g10 ha15 ?_
      refine r_bipush (pc := 85) dX12_makeWitness_85 kc_bipush_8 ?_
      refine r_iload_n (pc := 87) dX12_makeWitness_87 rfl 1 rfl ?_
      refine r_imul (pc := 88) dX12_makeWitness_88 ?_
      refine r_iconst (pc := 89) dX12_makeWitness_89 kc_iconst_5 ?_
      refine r_iadd (pc := 90) dX12_makeWitness_90 ?_
      refine r_iload (pc := 91) dX12_makeWitness_91 5 rfl ?_
      refine r_iadd (pc := 93) dX12_makeWitness_93 ?_
      obtain ⟨g16, h⟩ := gd h
      obtain ⟨g17, h⟩ := gd h
      refine r_laload (pc := 94) dX12_makeWitness_94 g16 g17 ?_
      obtain ⟨g18, h⟩ := gd h
      refine r_ldiv (pc := 95) dX12_makeWitness_95 g18 ?_
      refine r_lmul (pc := 96) dX12_makeWitness_96 ?_
      obtain ⟨g19, h⟩ := gd h
      obtain ⟨g20, h⟩ := gd h
      refine r_lastore (pc := 97) dX12_makeWitness_97 g19 g20 ?_
      refine r_lload (pc := 98) dX12_makeWitness_98 3 rfl ?_
      refine r_aload_n (pc := 100) dX12_makeWitness_100 rfl 0 rfl ?_
      refine r_getS (pc := 101) dX12_makeWitness_101 fgX12_272 rfl g10 ha11 ?_
      refine r_iload (pc := 104) dX12_makeWitness_104 5 rfl ?_
      refine r_laload (pc := 106) dX12_makeWitness_106 g19 g20 ?_
      obtain ⟨r22, hc23, h⟩ := ob h
      refine r_callS1 (pc := 107) (av := [vL x4, vL ((u2 J a11 (Int32.toNatClampNeg x8) ((J a12 (Int32.toNatClampNeg ((((8 : Int32) * x1) + (5 : Int32)) + x8))) * (x2 / (J a15 (Int32.toNatClampNeg ((((8 : Int32) * x1) + (5 : Int32)) + x8)))))) a11 (Int32.toNatClampNeg x8))]) (S := []) dX12_makeWitness_107 (kX12_common hc23) mkX12_734 mwX12_common rfl ⟨Nat.le_of_ble_eq_true rfl, Nat.le_of_ble_eq_true rfl⟩ (Nat.le_of_ble_eq_true rfl) ⟨Nat.le_refl _, Nat.le_refl _⟩ (fun b => b) ?_
      refine r_lstore (pc := 110) (L' := [(4, vL r22), (0, vR (some t)), (1, vI x1), (2, vL x2), (6, vL x6), (8, vI x8)]) dX12_makeWitness_110 (by decide) rfl ?_
      refine r_lload (pc := 112) dX12_makeWitness_112 4 rfl ?_
      refine r_lconst (pc := 114) dX12_makeWitness_114 kc_lconst_0 ?_
      refine r_lcmp (pc := 115) dX12_makeWitness_115 ?_
      refine r_ifne (pc := 116) (tgt := 129) dX12_makeWitness_116 rfl (fun c => ?_) (fun c => ?_)
      · have h := ie h (fun q => c (lgc_eq.mpr q))
        refine r_lload (pc := 129) dX12_makeWitness_129 4 rfl ?_
        refine r_lstore (pc := 131) (L' := [(6, vL x6), (4, vL r22), (0, vR (some t)), (1, vI x1), (2, vL x2), (8, vI x8)]) dX12_makeWitness_131 (by decide) rfl ?_
        refine r_iinc (pc := 133) (v := (x8 + (1 : Int32))) (L' := [(8, vI (x8 + (1 : Int32))), (6, vL x6), (4, vL r22), (0, vR (some t)), (1, vI x1), (2, vL x2)]) dX12_makeWitness_133 5 rfl (kc_inc_1 _) (by decide) rfl ?_
        refine r_goto (pc := 136) (tgt := 54) dX12_makeWitness_136 rfl ?_
        refine r_sub [3, 4, 5, 2, 1, 0] rfl ?_
        exact ih _ _ _ _ _ _ h
      · have h := it h (lgc_eq.mp c)
        refine r_aload_n (pc := 119) dX12_makeWitness_119 rfl 1 rfl ?_
        refine r_getS (pc := 120) dX12_makeWitness_120 fgX12_272 rfl g10 ha11 ?_
        refine r_iload (pc := 123) dX12_makeWitness_123 5 rfl ?_
        refine r_laload (pc := 125) dX12_makeWitness_125 g19 g20 ?_
        refine r_goto (pc := 126) (tgt := 131) dX12_makeWitness_126 rfl ?_
        refine r_lstore (pc := 131) (L' := [(6, vL ((u2 J a11 (Int32.toNatClampNeg x8) ((J a12 (Int32.toNatClampNeg ((((8 : Int32) * x1) + (5 : Int32)) + x8))) * (x2 / (J a15 (Int32.toNatClampNeg ((((8 : Int32) * x1) + (5 : Int32)) + x8)))))) a11 (Int32.toNatClampNeg x8))), (4, vL r22), (0, vR (some t)), (1, vI x1), (2, vL x2), (8, vI x8)]) dX12_makeWitness_131 (by decide) rfl ?_
        refine r_iinc (pc := 133) (v := (x8 + (1 : Int32))) (L' := [(8, vI (x8 + (1 : Int32))), (6, vL ((u2 J a11 (Int32.toNatClampNeg x8) ((J a12 (Int32.toNatClampNeg ((((8 : Int32) * x1) + (5 : Int32)) + x8))) * (x2 / (J a15 (Int32.toNatClampNeg ((((8 : Int32) * x1) + (5 : Int32)) + x8)))))) a11 (Int32.toNatClampNeg x8))), (4, vL r22), (0, vR (some t)), (1, vI x1), (2, vL x2)]) dX12_makeWitness_133 5 rfl (kc_inc_1 _) (by decide) rfl ?_
        refine r_goto (pc := 136) (tgt := 54) dX12_makeWitness_136 rfl ?_
        refine r_sub [3, 4, 5, 2, 1, 0] rfl ?_
        exact ih _ _ _ _ _ _ h
def fX12_makeWitness_l5  (σ : Shp) (R : Nat → Nat → Option Nat) (t : Nat) : Nat → (Nat → Nat → Int64) → (Int32) → (Int64) → (Int32) → Option ((Nat → Nat → Int64))
  | 0, _, _, _, _ => none
  | n + 1, J, x1, x2, x4 =>
    if (3 : Int32) ≤ x4 then
      fX12_makeWitness_l54 σ R t FUx J x1 x2 (0 : Int64) (0 : Int64) (0 : Int32)
    else
      if kdx σ t = 13 then
      ((R t 112) : Option Nat).bind fun a28 =>
      if kdx σ a28 = 21 then
      if ¬ (((((8 : Int32) * x1) + (5 : Int32)) + x4) < 0 ∨ lnx σ a28 ≤ Int32.toNatClampNeg ((((8 : Int32) * x1) + (5 : Int32)) + x4)) then
      let v31 := (J a28 (Int32.toNatClampNeg ((((8 : Int32) * x1) + (5 : Int32)) + x4)))
      (fX12_common x2 v31).bind fun r32 =>
      if ¬ r32 = 0 then
      let v35 := ((x2 / r32) * v31)
      let v36 := x4 + (1 : Int32)
      fX12_makeWitness_l5 σ R t n J x1 v35 v36
      else none
      else none
      else none
      else none
theorem wX12_makeWitness_l5 {G : Gx} {l : Launch} {σ : Shp} {I : Nat → Nat → Int32} {D : Nat → Nat → UInt64} {R : Nat → Nat → Option Nat} {t : Nat} {J9 : Nat → Nat → Int64} : ∀ (n : Nat) (J : Nat → Nat → Int64) (x1 : Int32) (x2 : Int64) (x4 : Int32), fX12_makeWitness_l5 σ R t n J x1 x2 x4 = some J9 → WX12_makeWitness G l σ (σ, I, J9, D, R) none (σ, I, J, D, R) 5 [(0, vR (some t)), (1, vI x1), (2, vL x2), (4, vI x4)] [] := by
  intro n
  induction n with
  | zero =>
    intro J x1 x2 x4 h
    have h : none = some _ := h
    cases h
  | succ n ih =>
    intro J x1 x2 x4 h
    rw [fX12_makeWitness_l5] at h
    refine r_iload (pc := 5) dX12_makeWitness_5 3 rfl ?_
    refine r_iconst (pc := 7) dX12_makeWitness_7 kc_iconst_3 ?_
    refine r_icmp_ge (pc := 8) (tgt := 45) dX12_makeWitness_8 rfl (fun c => ?_) (fun c => ?_)
    · have h := it h c
      refine r_lconst (pc := 45) dX12_makeWitness_45 kc_lconst_0 ?_
      refine r_lstore (pc := 46) (L' := [(4, vL (0 : Int64)), (0, vR (some t)), (1, vI x1), (2, vL x2)]) dX12_makeWitness_46 (by decide) rfl ?_
      refine r_lconst (pc := 48) dX12_makeWitness_48 kc_lconst_0 ?_
      refine r_lstore (pc := 49) (L' := [(6, vL (0 : Int64)), (4, vL (0 : Int64)), (0, vR (some t)), (1, vI x1), (2, vL x2)]) dX12_makeWitness_49 (by decide) rfl ?_
      refine r_iconst (pc := 51) dX12_makeWitness_51 kc_iconst_0 ?_
      refine r_istore (pc := 52) (L' := [(8, vI (0 : Int32)), (6, vL (0 : Int64)), (4, vL (0 : Int64)), (0, vR (some t)), (1, vI x1), (2, vL x2)]) dX12_makeWitness_52 (by decide) rfl ?_
      refine r_sub [3, 4, 5, 2, 1, 0] rfl ?_
      exact wX12_makeWitness_l54 _ _ _ _ _ _ _ h
    · have h := ie h c
      refine r_aload_n (pc := 11) dX12_makeWitness_11 rfl 0 rfl ?_
      obtain ⟨g27, h⟩ := gd h
      obtain ⟨a28, ha28, h⟩ := ob h
      refine r_getS (pc := 12) dX12_makeWitness_12 fgX12_260 rfl g27 ha28 ?_
      refine r_bipush (pc := 15) dX12_makeWitness_15 kc_bipush_8 ?_
      refine r_iload_n (pc := 17) dX12_makeWitness_17 rfl 1 rfl ?_
      refine r_imul (pc := 18) dX12_makeWitness_18 ?_
      refine r_iconst (pc := 19) dX12_makeWitness_19 kc_iconst_5 ?_
      refine r_iadd (pc := 20) dX12_makeWitness_20 ?_
      refine r_iload (pc := 21) dX12_makeWitness_21 3 rfl ?_
      refine r_iadd (pc := 23) dX12_makeWitness_23 ?_
      obtain ⟨g29, h⟩ := gd h
      obtain ⟨g30, h⟩ := gd h
      refine r_laload (pc := 24) dX12_makeWitness_24 g29 g30 ?_
      refine r_lstore (pc := 25) (L' := [(5, vL (J a28 (Int32.toNatClampNeg ((((8 : Int32) * x1) + (5 : Int32)) + x4)))), (0, vR (some t)), (1, vI x1), (2, vL x2), (4, vI x4)]) dX12_makeWitness_25 (by decide) rfl ?_
      refine r_lload_n (pc := 27) dX12_makeWitness_27 rfl 3 rfl ?_
      refine r_lload_n (pc := 28) dX12_makeWitness_28 rfl 3 rfl ?_
      refine r_lload (pc := 29) dX12_makeWitness_29 0 rfl ?_
      obtain ⟨r32, hc33, h⟩ := ob h
      refine r_callS1 (pc := 31) (av := [vL x2, vL (J a28 (Int32.toNatClampNeg ((((8 : Int32) * x1) + (5 : Int32)) + x4)))]) (S := [vL x2]) dX12_makeWitness_31 (kX12_common hc33) mkX12_734 mwX12_common rfl ⟨Nat.le_of_ble_eq_true rfl, Nat.le_of_ble_eq_true rfl⟩ (Nat.le_of_ble_eq_true rfl) ⟨Nat.le_refl _, Nat.le_refl _⟩ (fun b => b) ?_
      obtain ⟨g34, h⟩ := gd h
      refine r_ldiv (pc := 34) dX12_makeWitness_34 g34 ?_
      refine r_lload (pc := 35) dX12_makeWitness_35 0 rfl ?_
      refine r_lmul (pc := 37) dX12_makeWitness_37 ?_
      refine r_lstore_n (pc := 38) (L' := [(2, vL ((x2 / r32) * (J a28 (Int32.toNatClampNeg ((((8 : Int32) * x1) + (5 : Int32)) + x4))))), (5, vL (J a28 (Int32.toNatClampNeg ((((8 : Int32) * x1) + (5 : Int32)) + x4)))), (0, vR (some t)), (1, vI x1), (4, vI x4)]) dX12_makeWitness_38 rfl (by decide) rfl ?_
      refine r_iinc (pc := 39) (v := (x4 + (1 : Int32))) (L' := [(4, vI (x4 + (1 : Int32))), (2, vL ((x2 / r32) * (J a28 (Int32.toNatClampNeg ((((8 : Int32) * x1) + (5 : Int32)) + x4))))), (5, vL (J a28 (Int32.toNatClampNeg ((((8 : Int32) * x1) + (5 : Int32)) + x4)))), (0, vR (some t)), (1, vI x1)]) dX12_makeWitness_39 4 rfl (kc_inc_1 _) (by decide) rfl ?_
      refine r_goto (pc := 42) (tgt := 5) dX12_makeWitness_42 rfl ?_
      refine r_sub [3, 4, 1, 0] rfl ?_
      exact ih _ _ _ _ h
def fX12_makeWitness (σ : Shp) (J : Nat → Nat → Int64) (R : Nat → Nat → Option Nat) (t : Nat) (x1 : Int32) : Option ((Nat → Nat → Int64)) :=
  fX12_makeWitness_l5 σ R t FUx J x1 (1 : Int64) (0 : Int32)
theorem kX12_makeWitness {G : Gx} {l : Launch} {σ : Shp} {I : Nat → Nat → Int32} {J : Nat → Nat → Int64} {D : Nat → Nat → UInt64} {R : Nat → Nat → Option Nat} {t : Nat} {x1 : Int32} {J9 : Nat → Nat → Int64} (h : fX12_makeWitness σ J R t x1 = some J9) : Con G l yX12_makeWitness cX12_makeWitness 9 none 1 29 [vR (some t), vI x1] (σ, I, J, D, R) (σ, I, J9, D, R) none := by
  unfold fX12_makeWitness at h
  refine Con.mk (by decide +kernel) rfl (Nat.le_of_ble_eq_true rfl) ?_
  show WX12_makeWitness G l σ (σ, I, J9, D, R) none (σ, I, J, D, R) 0 _ []
  refine r_lconst (pc := 0) dX12_makeWitness_0 kc_lconst_1 ?_
  refine r_lstore_n (pc := 1) (L' := [(2, vL (1 : Int64)), (0, vR (some t)), (1, vI x1)]) dX12_makeWitness_1 rfl (by decide) rfl ?_
  refine r_iconst (pc := 2) dX12_makeWitness_2 kc_iconst_0 ?_
  refine r_istore (pc := 3) (L' := [(4, vI (0 : Int32)), (2, vL (1 : Int64)), (0, vR (some t)), (1, vI x1)]) dX12_makeWitness_3 (by decide) rfl ?_
  refine r_sub [2, 3, 1, 0] rfl ?_
  exact wX12_makeWitness_l5 _ _ _ _ _ h
abbrev WX12_work (G : Gx) (l : Launch) (σ0 : Shp) (X1 : Stt) (rv : Option SV) : Stt → Nat → List (Nat × SV) → List SV → Prop := Wm G l yX12_work cX12_work 3 (some .int) (fun _ => True) (rmx 4 123 σ0 X1.1) σ0 (Qmx G σ0 X1 rv)
def fX12_work_l273  (σ : Shp) (R : Nat → Nat → Option Nat) (t : Nat) : Nat → (Nat → Nat → Int32) → (Nat → Nat → Int64) → (Int32) → (Int32) → Option ((Nat → Nat → Int32) × (Nat → Nat → Int64) × (Int32))
  | 0, _, _, _, _ => none
  | n + 1, I, J, x1, x2 =>
    if kdx σ t = 13 then
    if (I t 114) ≤ x2 then
      if x1 = 0 then
        some (I, J, (1 : Int32))
      else
        some (I, J, (2 : Int32))
    else
      ((R t 117) : Option Nat).bind fun a9 =>
      ((R t 113) : Option Nat).bind fun a10 =>
      if kdx σ a10 = 20 then
      if ¬ (x2 < 0 ∨ lnx σ a10 ≤ Int32.toNatClampNeg x2) then
      ((R t 111) : Option Nat).bind fun a13 =>
      if kdx σ a13 = 21 then
      if ¬ ((((8 : Int32) * x2) + (4 : Int32)) < 0 ∨ lnx σ a13 ≤ Int32.toNatClampNeg (((8 : Int32) * x2) + (4 : Int32))) then
      if kdx σ a9 = 21 then
      if ¬ ((I a10 (Int32.toNatClampNeg x2)) < 0 ∨ lnx σ a9 ≤ Int32.toNatClampNeg (I a10 (Int32.toNatClampNeg x2))) then
      let J18 := u2 J a9 (Int32.toNatClampNeg (I a10 (Int32.toNatClampNeg x2))) (J a13 (Int32.toNatClampNeg (((8 : Int32) * x2) + (4 : Int32))))
      ((R t 118) : Option Nat).bind fun a19 =>
      ((R t 112) : Option Nat).bind fun a20 =>
      if kdx σ a20 = 21 then
      if ¬ ((((8 : Int32) * x2) + (4 : Int32)) < 0 ∨ lnx σ a20 ≤ Int32.toNatClampNeg (((8 : Int32) * x2) + (4 : Int32))) then
      if kdx σ a19 = 21 then
      if ¬ ((I a10 (Int32.toNatClampNeg x2)) < 0 ∨ lnx σ a19 ≤ Int32.toNatClampNeg (I a10 (Int32.toNatClampNeg x2))) then
      let J25 := u2 J18 a19 (Int32.toNatClampNeg (I a10 (Int32.toNatClampNeg x2))) (J18 a20 (Int32.toNatClampNeg (((8 : Int32) * x2) + (4 : Int32))))
      if x1 = 0 then
        if (0 : Int64) ≤ (J25 a13 (Int32.toNatClampNeg (((8 : Int32) * x2) + (4 : Int32)))) then
          let v27 := x2 + (1 : Int32)
          fX12_work_l273 σ R t n I J25 (0 : Int32) v27
        else
          let v28 := x2 + (1 : Int32)
          fX12_work_l273 σ R t n I J25 (1 : Int32) v28
      else
        let v26 := x2 + (1 : Int32)
        fX12_work_l273 σ R t n I J25 (1 : Int32) v26
      else none
      else none
      else none
      else none
      else none
      else none
      else none
      else none
      else none
      else none
    else none
theorem wX12_work_l273 {G : Gx} {l : Launch} {σ : Shp} {D : Nat → Nat → UInt64} {R : Nat → Nat → Option Nat} {t : Nat} {I9 : Nat → Nat → Int32} {J9 : Nat → Nat → Int64} {r9 : Int32} : ∀ (n : Nat) (I : Nat → Nat → Int32) (J : Nat → Nat → Int64) (x1 : Int32) (x2 : Int32), fX12_work_l273 σ R t n I J x1 x2 = some (I9, J9, r9) → WX12_work G l σ (σ, I9, J9, D, R) (some (vI r9)) (σ, I, J, D, R) 273 [(0, vR (some t)), (1, vI x1), (2, vI x2)] [] := by
  intro n
  induction n with
  | zero =>
    intro I J x1 x2 h
    have h : none = some _ := h
    cases h
  | succ n ih =>
    intro I J x1 x2 h
    rw [fX12_work_l273] at h
    refine r_iload_n (pc := 273) dX12_work_273 rfl 2 rfl ?_
    refine r_aload_n (pc := 274) dX12_work_274 rfl 0 rfl ?_
    obtain ⟨g8, h⟩ := gd h
    refine r_getI (pc := 275) dX12_work_275 fgX12_741 rfl g8 ?_
    refine r_icmp_ge (pc := 278) (tgt := 357) dX12_work_278 rfl (fun c => ?_) (fun c => ?_)
    · have h := it h c
      refine r_iload_n (pc := 357) dX12_work_357 rfl 1 rfl ?_
      refine r_if_eq (pc := 358) (tgt := 365) dX12_work_358 rfl (fun c => ?_) (fun c => ?_)
      · have h := it h c
        refine r_iconst (pc := 365) dX12_work_365 kc_iconst_1 ?_
        cases h
        exact r_iret dX12_work_366
      · have h := ie h c
        refine r_iconst (pc := 361) dX12_work_361 kc_iconst_2 ?_
        refine r_goto (pc := 362) (tgt := 366) dX12_work_362 rfl ?_
        cases h
        exact r_iret dX12_work_366
    · have h := ie h c
      refine r_aload_n (pc := 281) dX12_work_281 rfl 0 rfl ?_
      obtain ⟨a9, ha9, h⟩ := ob h
      refine r_getS (pc := 282) dX12_work_282 fgX12_266 rfl g8 ha9 ?_
      refine r_aload_n (pc := 285) dX12_work_285 rfl 0 rfl ?_
      obtain ⟨a10, ha10, h⟩ := ob h
      refine r_getS (pc := 286) dX12_work_286 fgX12_263 rfl g8 ha10 ?_
      refine r_iload_n (pc := 289) dX12_work_289 rfl 2 rfl ?_
      obtain ⟨g11, h⟩ := gd h
      obtain ⟨g12, h⟩ := gd h
      refine r_iaload (pc := 290) dX12_work_290 g11 g12 ?_
      refine r_aload_n (pc := 291) dX12_work_291 rfl 0 rfl ?_
      obtain ⟨a13, ha13, h⟩ := ob h
      refine r_getS (pc := 292) dX12_work_292 fgX12_257 rfl g8 ha13 ?_
      refine r_bipush (pc := 295) dX12_work_295 kc_bipush_8 ?_
      refine r_iload_n (pc := 297) dX12_work_297 rfl 2 rfl ?_
      refine r_imul (pc := 298) dX12_work_298 ?_
      refine r_iconst (pc := 299) dX12_work_299 kc_iconst_4 ?_
      refine r_iadd (pc := 300) dX12_work_300 ?_
      obtain ⟨g14, h⟩ := gd h
      obtain ⟨g15, h⟩ := gd h
      refine r_laload (pc := 301) dX12_work_301 g14 g15 ?_
      obtain ⟨g16, h⟩ := gd h
      obtain ⟨g17, h⟩ := gd h
      refine r_lastore (pc := 302) dX12_work_302 g16 g17 ?_
      refine r_aload_n (pc := 303) dX12_work_303 rfl 0 rfl ?_
      obtain ⟨a19, ha19, h⟩ := ob h
      refine r_getS (pc := 304) dX12_work_304 fgX12_269 rfl g8 ha19 ?_
      refine r_aload_n (pc := 307) dX12_work_307 rfl 0 rfl ?_
      refine r_getS (pc := 308) dX12_work_308 fgX12_263 rfl g8 ha10 ?_
      refine r_iload_n (pc := 311) dX12_work_311 rfl 2 rfl ?_
      refine r_iaload (pc := 312) dX12_work_312 g11 g12 ?_
      refine r_aload_n (pc := 313) dX12_work_313 rfl 0 rfl ?_
      obtain ⟨a20, ha20, h⟩ := ob h
      refine r_getS (pc := 314) dX12_work_314 fgX12_260 rfl g8 ha20 ?_
      refine r_bipush (pc := 317) dX12_work_317 kc_bipush_8 ?_
      refine r_iload_n (pc := 319) dX12_work_319 rfl 2 rfl ?_
      refine r_imul (pc := 320) dX12_work_320 ?_
      refine r_iconst (pc := 321) dX12_work_321 kc_iconst_4 ?_
      refine r_iadd (pc := 322) dX12_work_322 ?_
      obtain ⟨g21, h⟩ := gd h
      obtain ⟨g22, h⟩ := gd h
      refine r_laload (pc := 323) dX12_work_323 g21 g22 ?_
      obtain ⟨g23, h⟩ := gd h
      obtain ⟨g24, h⟩ := gd h
      refine r_lastore (pc := 324) dX12_work_324 g23 g24 ?_
      refine r_iload_n (pc := 325) dX12_work_325 rfl 1 rfl ?_
      refine r_ifne (pc := 326) (tgt := 345) dX12_work_326 rfl (fun c => ?_) (fun c => ?_)
      · have h := ie h c
        refine r_iconst (pc := 345) dX12_work_345 kc_iconst_1 ?_
        refine r_goto (pc := 346) (tgt := 350) dX12_work_346 rfl ?_
        refine r_istore_n (pc := 350) (L' := [(1, vI (1 : Int32)), (0, vR (some t)), (2, vI x2)]) dX12_work_350 rfl (by decide) rfl ?_
        refine r_iinc (pc := 351) (v := (x2 + (1 : Int32))) (L' := [(2, vI (x2 + (1 : Int32))), (1, vI (1 : Int32)), (0, vR (some t))]) dX12_work_351 2 rfl (kc_inc_1 _) (by decide) rfl ?_
        refine r_goto (pc := 354) (tgt := 273) dX12_work_354 rfl ?_
        refine r_sub [2, 1, 0] rfl ?_
        exact ih _ _ _ _ h
      · have h := it h c
        refine r_aload_n (pc := 329) dX12_work_329 rfl 0 rfl ?_
        refine r_getS (pc := 330) dX12_work_330 fgX12_257 rfl g8 ha13 ?_
        refine r_bipush (pc := 333) dX12_work_333 kc_bipush_8 ?_
        refine r_iload_n (pc := 335) dX12_work_335 rfl 2 rfl ?_
        refine r_imul (pc := 336) dX12_work_336 ?_
        refine r_iconst (pc := 337) dX12_work_337 kc_iconst_4 ?_
        refine r_iadd (pc := 338) dX12_work_338 ?_
        refine r_laload (pc := 339) dX12_work_339 g14 g15 ?_
        refine r_lconst (pc := 340) dX12_work_340 kc_lconst_0 ?_
        refine r_lcmp (pc := 341) dX12_work_341 ?_
        refine r_ifge (pc := 342) (tgt := 349) dX12_work_342 rfl (fun c => ?_) (fun c => ?_)
        · have h := it h (lgc_ge.mp c)
          refine r_iconst (pc := 349) dX12_work_349 kc_iconst_0 ?_
          refine r_istore_n (pc := 350) (L' := [(1, vI (0 : Int32)), (0, vR (some t)), (2, vI x2)]) dX12_work_350 rfl (by decide) rfl ?_
          refine r_iinc (pc := 351) (v := (x2 + (1 : Int32))) (L' := [(2, vI (x2 + (1 : Int32))), (1, vI (0 : Int32)), (0, vR (some t))]) dX12_work_351 2 rfl (kc_inc_1 _) (by decide) rfl ?_
          refine r_goto (pc := 354) (tgt := 273) dX12_work_354 rfl ?_
          refine r_sub [2, 1, 0] rfl ?_
          exact ih _ _ _ _ h
        · have h := ie h (fun q => c (lgc_ge.mpr q))
          refine r_iconst (pc := 345) dX12_work_345 kc_iconst_1 ?_
          refine r_goto (pc := 346) (tgt := 350) dX12_work_346 rfl ?_
          refine r_istore_n (pc := 350) (L' := [(1, vI (1 : Int32)), (0, vR (some t)), (2, vI x2)]) dX12_work_350 rfl (by decide) rfl ?_
          refine r_iinc (pc := 351) (v := (x2 + (1 : Int32))) (L' := [(2, vI (x2 + (1 : Int32))), (1, vI (1 : Int32)), (0, vR (some t))]) dX12_work_351 2 rfl (kc_inc_1 _) (by decide) rfl ?_
          refine r_goto (pc := 354) (tgt := 273) dX12_work_354 rfl ?_
          refine r_sub [2, 1, 0] rfl ?_
          exact ih _ _ _ _ h
def fX12_work_l246  (σ : Shp) (R : Nat → Nat → Option Nat) (t : Nat) : Nat → (Nat → Nat → Int32) → (Nat → Nat → Int64) → (Int32) → (Int32) → Option ((Nat → Nat → Int32) × (Nat → Nat → Int64) × (Int32))
  | 0, _, _, _, _ => none
  | n + 1, I, J, x1, x2 =>
    if (4 : Int32) ≤ x2 then
      fX12_work_l273 σ R t FUx I J x1 (0 : Int32)
    else
      if kdx σ t = 13 then
      ((R t 117) : Option Nat).bind fun a30 =>
      if kdx σ a30 = 21 then
      if ¬ (x2 < 0 ∨ lnx σ a30 ≤ Int32.toNatClampNeg x2) then
      let J33 := u2 J a30 (Int32.toNatClampNeg x2) (0 : Int64)
      ((R t 118) : Option Nat).bind fun a34 =>
      if kdx σ a34 = 21 then
      if ¬ (x2 < 0 ∨ lnx σ a34 ≤ Int32.toNatClampNeg x2) then
      let J37 := u2 J33 a34 (Int32.toNatClampNeg x2) (1 : Int64)
      let v38 := x2 + (1 : Int32)
      fX12_work_l246 σ R t n I J37 x1 v38
      else none
      else none
      else none
      else none
      else none
theorem wX12_work_l246 {G : Gx} {l : Launch} {σ : Shp} {D : Nat → Nat → UInt64} {R : Nat → Nat → Option Nat} {t : Nat} {I9 : Nat → Nat → Int32} {J9 : Nat → Nat → Int64} {r9 : Int32} : ∀ (n : Nat) (I : Nat → Nat → Int32) (J : Nat → Nat → Int64) (x1 : Int32) (x2 : Int32), fX12_work_l246 σ R t n I J x1 x2 = some (I9, J9, r9) → WX12_work G l σ (σ, I9, J9, D, R) (some (vI r9)) (σ, I, J, D, R) 246 [(0, vR (some t)), (1, vI x1), (2, vI x2)] [] := by
  intro n
  induction n with
  | zero =>
    intro I J x1 x2 h
    have h : none = some _ := h
    cases h
  | succ n ih =>
    intro I J x1 x2 h
    rw [fX12_work_l246] at h
    refine r_iload_n (pc := 246) dX12_work_246 rfl 2 rfl ?_
    refine r_iconst (pc := 247) dX12_work_247 kc_iconst_4 ?_
    refine r_icmp_ge (pc := 248) (tgt := 271) dX12_work_248 rfl (fun c => ?_) (fun c => ?_)
    · have h := it h c
      refine r_iconst (pc := 271) dX12_work_271 kc_iconst_0 ?_
      refine r_istore_n (pc := 272) (L' := [(2, vI (0 : Int32)), (0, vR (some t)), (1, vI x1)]) dX12_work_272 rfl (by decide) rfl ?_
      refine r_sub [1, 2, 0] rfl ?_
      exact wX12_work_l273 _ _ _ _ _ h
    · have h := ie h c
      refine r_aload_n (pc := 251) dX12_work_251 rfl 0 rfl ?_
      obtain ⟨g29, h⟩ := gd h
      obtain ⟨a30, ha30, h⟩ := ob h
      refine r_getS (pc := 252) dX12_work_252 fgX12_266 rfl g29 ha30 ?_
      refine r_iload_n (pc := 255) dX12_work_255 rfl 2 rfl ?_
      refine r_lconst (pc := 256) dX12_work_256 kc_lconst_0 ?_
      obtain ⟨g31, h⟩ := gd h
      obtain ⟨g32, h⟩ := gd h
      refine r_lastore (pc := 257) dX12_work_257 g31 g32 ?_
      refine r_aload_n (pc := 258) dX12_work_258 rfl 0 rfl ?_
      obtain ⟨a34, ha34, h⟩ := ob h
      refine r_getS (pc := 259) dX12_work_259 fgX12_269 rfl g29 ha34 ?_
      refine r_iload_n (pc := 262) dX12_work_262 rfl 2 rfl ?_
      refine r_lconst (pc := 263) dX12_work_263 kc_lconst_1 ?_
      obtain ⟨g35, h⟩ := gd h
      obtain ⟨g36, h⟩ := gd h
      refine r_lastore (pc := 264) dX12_work_264 g35 g36 ?_
      refine r_iinc (pc := 265) (v := (x2 + (1 : Int32))) (L' := [(2, vI (x2 + (1 : Int32))), (0, vR (some t)), (1, vI x1)]) dX12_work_265 2 rfl (kc_inc_1 _) (by decide) rfl ?_
      refine r_goto (pc := 268) (tgt := 246) dX12_work_268 rfl ?_
      refine r_sub [1, 2, 0] rfl ?_
      exact ih _ _ _ _ h
def fX12_work_l189  (σ : Shp) (R : Nat → Nat → Option Nat) (t : Nat) : Nat → (Nat → Nat → Int32) → (Nat → Nat → Int64) → (Int32) → Option ((Nat → Nat → Int32) × (Nat → Nat → Int64) × (Int32))
  | 0, _, _, _ => none
  | n + 1, I, J, x1 =>
    if (3 : Int32) ≤ x1 then
      if kdx σ t = 13 then
      if (I t 116) = 0 then
        fX12_work_l246 σ R t FUx I J (0 : Int32) (0 : Int32)
      else
        some (I, J, (0 : Int32))
      else none
    else
      if kdx σ t = 13 then
      if (I t 116) = 0 then
        ((R t 111) : Option Nat).bind fun a40 =>
        if kdx σ a40 = 21 then
        if ¬ ((((8 : Int32) * x1) + (4 : Int32)) < 0 ∨ lnx σ a40 ≤ Int32.toNatClampNeg (((8 : Int32) * x1) + (4 : Int32))) then
        if (J a40 (Int32.toNatClampNeg (((8 : Int32) * x1) + (4 : Int32)))) = (0 : Int64) then
          let v43 := x1 + (1 : Int32)
          fX12_work_l189 σ R t n I J v43
        else
          let I44 := u2 I t 116 (1 : Int32)
          (fX12_makeWitness σ J R t x1).bind fun J45 =>
          let v47 := x1 + (1 : Int32)
          fX12_work_l189 σ R t n I44 J45 v47
        else none
        else none
      else
        if (I t 116) = 0 then
          fX12_work_l246 σ R t FUx I J (0 : Int32) (0 : Int32)
        else
          some (I, J, (0 : Int32))
      else none
theorem wX12_work_l189 {G : Gx} {l : Launch} {σ : Shp} {D : Nat → Nat → UInt64} {R : Nat → Nat → Option Nat} {t : Nat} {I9 : Nat → Nat → Int32} {J9 : Nat → Nat → Int64} {r9 : Int32} : ∀ (n : Nat) (I : Nat → Nat → Int32) (J : Nat → Nat → Int64) (x1 : Int32), fX12_work_l189 σ R t n I J x1 = some (I9, J9, r9) → WX12_work G l σ (σ, I9, J9, D, R) (some (vI r9)) (σ, I, J, D, R) 189 [(0, vR (some t)), (1, vI x1)] [] := by
  intro n
  induction n with
  | zero =>
    intro I J x1 h
    have h : none = some _ := h
    cases h
  | succ n ih =>
    intro I J x1 h
    rw [fX12_work_l189] at h
    refine r_iload_n (pc := 189) dX12_work_189 rfl 1 rfl ?_
    refine r_iconst (pc := 190) dX12_work_190 kc_iconst_3 ?_
    refine r_icmp_ge (pc := 191) (tgt := 233) dX12_work_191 rfl (fun c => ?_) (fun c => ?_)
    · have h := it h c
      refine r_aload_n (pc := 233) dX12_work_233 rfl 0 rfl ?_
      obtain ⟨g7, h⟩ := gd h
      refine r_getI (pc := 234) dX12_work_234 fgX12_758 rfl g7 ?_
      refine r_if_eq (pc := 237) (tgt := 242) dX12_work_237 rfl (fun c => ?_) (fun c => ?_)
      · have h := it h c
        refine r_iconst (pc := 242) dX12_work_242 kc_iconst_0 ?_
        refine r_istore_n (pc := 243) (L' := [(1, vI (0 : Int32)), (0, vR (some t))]) dX12_work_243 rfl (by decide) rfl ?_
        refine r_iconst (pc := 244) dX12_work_244 kc_iconst_0 ?_
        refine r_istore_n (pc := 245) (L' := [(2, vI (0 : Int32)), (1, vI (0 : Int32)), (0, vR (some t))]) dX12_work_245 rfl (by decide) rfl ?_
        refine r_sub [2, 1, 0] rfl ?_
        exact wX12_work_l246 _ _ _ _ _ h
      · have h := ie h c
        refine r_iconst (pc := 240) dX12_work_240 kc_iconst_0 ?_
        cases h
        exact r_iret dX12_work_241
    · have h := ie h c
      refine r_aload_n (pc := 194) dX12_work_194 rfl 0 rfl ?_
      obtain ⟨g39, h⟩ := gd h
      refine r_getI (pc := 195) dX12_work_195 fgX12_758 rfl g39 ?_
      refine r_ifne (pc := 198) (tgt := 233) dX12_work_198 rfl (fun c => ?_) (fun c => ?_)
      · have h := ie h c
        refine r_aload_n (pc := 233) dX12_work_233 rfl 0 rfl ?_
        refine r_getI (pc := 234) dX12_work_234 fgX12_758 rfl g39 ?_
        refine r_if_eq (pc := 237) (tgt := 242) dX12_work_237 rfl (fun c => ?_) (fun c => ?_)
        · have h := it h c
          refine r_iconst (pc := 242) dX12_work_242 kc_iconst_0 ?_
          refine r_istore_n (pc := 243) (L' := [(1, vI (0 : Int32)), (0, vR (some t))]) dX12_work_243 rfl (by decide) rfl ?_
          refine r_iconst (pc := 244) dX12_work_244 kc_iconst_0 ?_
          refine r_istore_n (pc := 245) (L' := [(2, vI (0 : Int32)), (1, vI (0 : Int32)), (0, vR (some t))]) dX12_work_245 rfl (by decide) rfl ?_
          refine r_sub [2, 1, 0] rfl ?_
          exact wX12_work_l246 _ _ _ _ _ h
        · have h := ie h c
          refine r_iconst (pc := 240) dX12_work_240 kc_iconst_0 ?_
          cases h
          exact r_iret dX12_work_241
      · have h := it h c
        refine r_aload_n (pc := 201) dX12_work_201 rfl 0 rfl ?_
        obtain ⟨a40, ha40, h⟩ := ob h
        refine r_getS (pc := 202) dX12_work_202 fgX12_257 rfl g39 ha40 ?_
        refine r_bipush (pc := 205) dX12_work_205 kc_bipush_8 ?_
        refine r_iload_n (pc := 207) dX12_work_207 rfl 1 rfl ?_
        refine r_imul (pc := 208) dX12_work_208 ?_
        refine r_iconst (pc := 209) dX12_work_209 kc_iconst_4 ?_
        refine r_iadd (pc := 210) dX12_work_210 ?_
        obtain ⟨g41, h⟩ := gd h
        obtain ⟨g42, h⟩ := gd h
        refine r_laload (pc := 211) dX12_work_211 g41 g42 ?_
        refine r_lconst (pc := 212) dX12_work_212 kc_lconst_0 ?_
        refine r_lcmp (pc := 213) dX12_work_213 ?_
        refine r_if_eq (pc := 214) (tgt := 227) dX12_work_214 rfl (fun c => ?_) (fun c => ?_)
        · have h := it h (lgc_eq.mp c)
          refine r_iinc (pc := 227) (v := (x1 + (1 : Int32))) (L' := [(1, vI (x1 + (1 : Int32))), (0, vR (some t))]) dX12_work_227 1 rfl (kc_inc_1 _) (by decide) rfl ?_
          refine r_goto (pc := 230) (tgt := 189) dX12_work_230 rfl ?_
          refine r_sub [1, 0] rfl ?_
          exact ih _ _ _ h
        · have h := ie h (fun q => c (lgc_eq.mpr q))
          refine r_aload_n (pc := 217) dX12_work_217 rfl 0 rfl ?_
          refine r_iconst (pc := 218) dX12_work_218 kc_iconst_1 ?_
          refine r_putZ (pc := 219) dX12_work_219 fwX12_758 rfl (Or.inr rfl) g39 ?_
          refine r_aload_n (pc := 222) dX12_work_222 rfl 0 rfl ?_
          refine r_iload_n (pc := 223) dX12_work_223 rfl 1 rfl ?_
          obtain ⟨J45, hc46, h⟩ := ob h
          refine r_callV0 (pc := 224) (av := [vI x1]) (S := []) dX12_work_224 (kX12_makeWitness hc46) g39 rfl mkX12_761 mwX12_makeWitness rfl ⟨Nat.le_of_ble_eq_true rfl, Nat.le_of_ble_eq_true rfl⟩ (Nat.le_of_ble_eq_true rfl) ⟨Nat.le_refl _, Nat.le_refl _⟩ (fun b => b) ?_
          refine r_iinc (pc := 227) (v := (x1 + (1 : Int32))) (L' := [(1, vI (x1 + (1 : Int32))), (0, vR (some t))]) dX12_work_227 1 rfl (kc_inc_1 _) (by decide) rfl ?_
          refine r_goto (pc := 230) (tgt := 189) dX12_work_230 rfl ?_
          refine r_sub [1, 0] rfl ?_
          exact ih _ _ _ h
def fX12_work_b153 (q116 : (Nat → Nat → Int32) → (Nat → Nat → Int64) → (Int32) → (Option ((Nat → Nat → Int32) × (Nat → Nat → Int64) × (Int32)))) (σ : Shp) (R : Nat → Nat → Option Nat) (t : Nat) (I : Nat → Nat → Int32) (J : Nat → Nat → Int64) (x1 : Int32) (x2 : Int32) : Option ((Nat → Nat → Int32) × (Nat → Nat → Int64) × (Int32)) :=
  if (3 : Int32) ≤ x2 then
    let v50 := x1 + (1 : Int32)
    q116 I J v50
  else
    if kdx σ t = 13 then
    (fX12_liftRow σ I J R t x2).bind fun J52 =>
    (fX12_clear σ I J52 R t x1).bind fun (I54, J55) =>
    let v57 := x1 + (1 : Int32)
    q116 I54 J55 v57
    else none
theorem wX12_work_b153 {G : Gx} {l : Launch} {σ : Shp} {I : Nat → Nat → Int32} {J : Nat → Nat → Int64} {D : Nat → Nat → UInt64} {R : Nat → Nat → Option Nat} {t : Nat} {I9 : Nat → Nat → Int32} {J9 : Nat → Nat → Int64} {r9 : Int32} {q116 : (Nat → Nat → Int32) → (Nat → Nat → Int64) → (Int32) → (Option ((Nat → Nat → Int32) × (Nat → Nat → Int64) × (Int32)))} {x1 : Int32} {x2 : Int32} (hq116 : ∀ (I : Nat → Nat → Int32) (J : Nat → Nat → Int64) (x1 : Int32), q116 I J x1 = some (I9, J9, r9) → WX12_work G l σ (σ, I9, J9, D, R) (some (vI r9)) (σ, I, J, D, R) 116 [(0, vR (some t)), (1, vI x1)] []) (h : fX12_work_b153 q116 σ R t I J x1 x2 = some (I9, J9, r9)) : WX12_work G l σ (σ, I9, J9, D, R) (some (vI r9)) (σ, I, J, D, R) 153 [(0, vR (some t)), (1, vI x1), (2, vI x2)] [] := by
  unfold fX12_work_b153 at h
  refine r_iload_n (pc := 153) dX12_work_153 rfl 2 rfl ?_
  refine r_iconst (pc := 154) dX12_work_154 kc_iconst_3 ?_
  refine r_icmp_ge (pc := 155) (tgt := 168) dX12_work_155 rfl (fun c => ?_) (fun c => ?_)
  · have h := it h c
    refine r_iinc (pc := 168) (v := (x1 + (1 : Int32))) (L' := [(1, vI (x1 + (1 : Int32))), (0, vR (some t)), (2, vI x2)]) dX12_work_168 1 rfl (kc_inc_1 _) (by decide) rfl ?_
    refine r_goto (pc := 171) (tgt := 116) dX12_work_171 rfl ?_
    refine r_sub [1, 0] rfl ?_
    exact hq116 _ _ _ h
  · have h := ie h c
    refine r_aload_n (pc := 158) dX12_work_158 rfl 0 rfl ?_
    refine r_iload_n (pc := 159) dX12_work_159 rfl 2 rfl ?_
    obtain ⟨g51, h⟩ := gd h
    obtain ⟨J52, hc53, h⟩ := ob h
    refine r_callV0 (pc := 160) (av := [vI x2]) (S := []) dX12_work_160 (kX12_liftRow hc53) g51 rfl mkX12_748 mwX12_liftRow rfl ⟨Nat.le_of_ble_eq_true rfl, Nat.le_of_ble_eq_true rfl⟩ (Nat.le_of_ble_eq_true rfl) ⟨Nat.le_refl _, Nat.le_refl _⟩ (fun b => b) ?_
    refine r_aload_n (pc := 163) dX12_work_163 rfl 0 rfl ?_
    refine r_iload_n (pc := 164) dX12_work_164 rfl 1 rfl ?_
    obtain ⟨⟨I54, J55⟩, hc56, h⟩ := ob h
    refine r_callV0 (pc := 165) (av := [vI x1]) (S := []) dX12_work_165 (kX12_clear hc56) g51 rfl mkX12_751 mwX12_clear rfl ⟨Nat.le_of_ble_eq_true rfl, Nat.le_of_ble_eq_true rfl⟩ (Nat.le_of_ble_eq_true rfl) ⟨Nat.le_refl _, Nat.le_refl _⟩ (fun b => b) ?_
    refine r_iinc (pc := 168) (v := (x1 + (1 : Int32))) (L' := [(1, vI (x1 + (1 : Int32))), (0, vR (some t)), (2, vI x2)]) dX12_work_168 1 rfl (kc_inc_1 _) (by decide) rfl ?_
    refine r_goto (pc := 171) (tgt := 116) dX12_work_171 rfl ?_
    refine r_sub [1, 0] rfl ?_
    exact hq116 _ _ _ h
def fX12_work_l126 (q116 : (Nat → Nat → Int32) → (Nat → Nat → Int64) → (Int32) → (Option ((Nat → Nat → Int32) × (Nat → Nat → Int64) × (Int32)))) (σ : Shp) (R : Nat → Nat → Option Nat) (t : Nat) : Nat → (Nat → Nat → Int32) → (Nat → Nat → Int64) → (Int32) → (Int32) → Option ((Nat → Nat → Int32) × (Nat → Nat → Int64) × (Int32))
  | 0, _, _, _, _ => none
  | n + 1, I, J, x1, x2 =>
    if (3 : Int32) ≤ x2 then
      fX12_work_b153 q116 σ R t I J x1 x2
    else
      if kdx σ t = 13 then
      ((R t 111) : Option Nat).bind fun a59 =>
      if kdx σ a59 = 21 then
      if ¬ ((((8 : Int32) * x2) + x1) < 0 ∨ lnx σ a59 ≤ Int32.toNatClampNeg (((8 : Int32) * x2) + x1)) then
      if (J a59 (Int32.toNatClampNeg (((8 : Int32) * x2) + x1))) = (0 : Int64) then
        let v62 := x2 + (1 : Int32)
        fX12_work_l126 q116 σ R t n I J x1 v62
      else
        fX12_work_b153 q116 σ R t I J x1 x2
      else none
      else none
      else none
theorem wX12_work_l126 {G : Gx} {l : Launch} {σ : Shp} {D : Nat → Nat → UInt64} {R : Nat → Nat → Option Nat} {t : Nat} {I9 : Nat → Nat → Int32} {J9 : Nat → Nat → Int64} {r9 : Int32} {q116 : (Nat → Nat → Int32) → (Nat → Nat → Int64) → (Int32) → (Option ((Nat → Nat → Int32) × (Nat → Nat → Int64) × (Int32)))} (hq116 : ∀ (I : Nat → Nat → Int32) (J : Nat → Nat → Int64) (x1 : Int32), q116 I J x1 = some (I9, J9, r9) → WX12_work G l σ (σ, I9, J9, D, R) (some (vI r9)) (σ, I, J, D, R) 116 [(0, vR (some t)), (1, vI x1)] []) : ∀ (n : Nat) (I : Nat → Nat → Int32) (J : Nat → Nat → Int64) (x1 : Int32) (x2 : Int32), fX12_work_l126 q116 σ R t n I J x1 x2 = some (I9, J9, r9) → WX12_work G l σ (σ, I9, J9, D, R) (some (vI r9)) (σ, I, J, D, R) 126 [(0, vR (some t)), (1, vI x1), (2, vI x2)] [] := by
  intro n
  induction n with
  | zero =>
    intro I J x1 x2 h
    have h : none = some _ := h
    cases h
  | succ n ih =>
    intro I J x1 x2 h
    rw [fX12_work_l126] at h
    refine r_iload_n (pc := 126) dX12_work_126 rfl 2 rfl ?_
    refine r_iconst (pc := 127) dX12_work_127 kc_iconst_3 ?_
    refine r_icmp_ge (pc := 128) (tgt := 153) dX12_work_128 rfl (fun c => ?_) (fun c => ?_)
    · have h := it h c
      refine r_sub [0, 1, 2] rfl ?_
      exact wX12_work_b153 hq116 h
    · have h := ie h c
      refine r_aload_n (pc := 131) dX12_work_131 rfl 0 rfl ?_
      obtain ⟨g58, h⟩ := gd h
      obtain ⟨a59, ha59, h⟩ := ob h
      refine r_getS (pc := 132) dX12_work_132 fgX12_257 rfl g58 ha59 ?_
      refine r_bipush (pc := 135) dX12_work_135 kc_bipush_8 ?_
      refine r_iload_n (pc := 137) dX12_work_137 rfl 2 rfl ?_
      refine r_imul (pc := 138) dX12_work_138 ?_
      refine r_iload_n (pc := 139) dX12_work_139 rfl 1 rfl ?_
      refine r_iadd (pc := 140) dX12_work_140 ?_
      obtain ⟨g60, h⟩ := gd h
      obtain ⟨g61, h⟩ := gd h
      refine r_laload (pc := 141) dX12_work_141 g60 g61 ?_
      refine r_lconst (pc := 142) dX12_work_142 kc_lconst_0 ?_
      refine r_lcmp (pc := 143) dX12_work_143 ?_
      refine r_ifne (pc := 144) (tgt := 153) dX12_work_144 rfl (fun c => ?_) (fun c => ?_)
      · have h := ie h (fun q => c (lgc_eq.mpr q))
        refine r_sub [0, 1, 2] rfl ?_
        exact wX12_work_b153 hq116 h
      · have h := it h (lgc_eq.mp c)
        refine r_iinc (pc := 147) (v := (x2 + (1 : Int32))) (L' := [(2, vI (x2 + (1 : Int32))), (0, vR (some t)), (1, vI x1)]) dX12_work_147 2 rfl (kc_inc_1 _) (by decide) rfl ?_
        refine r_goto (pc := 150) (tgt := 126) dX12_work_150 rfl ?_
        refine r_sub [1, 2, 0] rfl ?_
        exact ih _ _ _ _ h
def fX12_work_l116  (σ : Shp) (R : Nat → Nat → Option Nat) (t : Nat) : Nat → (Nat → Nat → Int32) → (Nat → Nat → Int64) → (Int32) → Option ((Nat → Nat → Int32) × (Nat → Nat → Int64) × (Int32))
  | 0, _, _, _ => none
  | n + 1, I, J, x1 =>
    if (4 : Int32) ≤ x1 then
      if kdx σ t = 13 then
      let I4 := u2 I t 115 (1 : Int32)
      let I5 := u2 I4 t 116 (0 : Int32)
      let v6 := (I5 t 114)
      fX12_work_l189 σ R t FUx I5 J v6
      else none
    else
      if kdx σ t = 13 then
      let v49 := (I t 114)
      fX12_work_l126 (fX12_work_l116 σ R t n) σ R t FUx I J x1 v49
      else none
theorem wX12_work_l116 {G : Gx} {l : Launch} {σ : Shp} {D : Nat → Nat → UInt64} {R : Nat → Nat → Option Nat} {t : Nat} {I9 : Nat → Nat → Int32} {J9 : Nat → Nat → Int64} {r9 : Int32} : ∀ (n : Nat) (I : Nat → Nat → Int32) (J : Nat → Nat → Int64) (x1 : Int32), fX12_work_l116 σ R t n I J x1 = some (I9, J9, r9) → WX12_work G l σ (σ, I9, J9, D, R) (some (vI r9)) (σ, I, J, D, R) 116 [(0, vR (some t)), (1, vI x1)] [] := by
  intro n
  induction n with
  | zero =>
    intro I J x1 h
    have h : none = some _ := h
    cases h
  | succ n ih =>
    intro I J x1 h
    rw [fX12_work_l116] at h
    refine r_iload_n (pc := 116) dX12_work_116 rfl 1 rfl ?_
    refine r_iconst (pc := 117) dX12_work_117 kc_iconst_4 ?_
    refine r_icmp_ge (pc := 118) (tgt := 174) dX12_work_118 rfl (fun c => ?_) (fun c => ?_)
    · have h := it h c
      refine r_aload_n (pc := 174) dX12_work_174 rfl 0 rfl ?_
      refine r_iconst (pc := 175) dX12_work_175 kc_iconst_1 ?_
      obtain ⟨g3, h⟩ := gd h
      refine r_putZ (pc := 176) dX12_work_176 fwX12_754 rfl (Or.inr rfl) g3 ?_
      refine r_aload_n (pc := 179) dX12_work_179 rfl 0 rfl ?_
      refine r_iconst (pc := 180) dX12_work_180 kc_iconst_0 ?_
      refine r_putZ (pc := 181) dX12_work_181 fwX12_758 rfl (Or.inl rfl) g3 ?_
      refine r_aload_n (pc := 184) dX12_work_184 rfl 0 rfl ?_
      refine r_getI (pc := 185) dX12_work_185 fgX12_741 rfl g3 ?_
      refine r_istore_n (pc := 188) (L' := [(1, vI ((u2 (u2 I t 115 (1 : Int32)) t 116 (0 : Int32)) t 114)), (0, vR (some t))]) dX12_work_188 rfl (by decide) rfl ?_
      refine r_sub [1, 0] rfl ?_
      exact wX12_work_l189 _ _ _ _ h
    · have h := ie h c
      refine r_aload_n (pc := 121) dX12_work_121 rfl 0 rfl ?_
      obtain ⟨g48, h⟩ := gd h
      refine r_getI (pc := 122) dX12_work_122 fgX12_741 rfl g48 ?_
      refine r_istore_n (pc := 125) (L' := [(2, vI (I t 114)), (0, vR (some t)), (1, vI x1)]) dX12_work_125 rfl (by decide) rfl ?_
      refine r_sub [1, 2, 0] rfl ?_
      exact wX12_work_l126 ih _ _ _ _ _ h
def fX12_work_l9 (q2 : (Nat → Nat → Int32) → (Nat → Nat → Int64) → (Int32) → (Option ((Nat → Nat → Int32) × (Nat → Nat → Int64) × (Int32)))) (σ : Shp) (R : Nat → Nat → Option Nat) (t : Nat) : Nat → (Nat → Nat → Int32) → (Nat → Nat → Int64) → (Int32) → (Int32) → Option ((Nat → Nat → Int32) × (Nat → Nat → Int64) × (Int32))
  | 0, _, _, _, _ => none
  | n + 1, I, J, x1, x2 =>
    if (8 : Int32) ≤ x2 then
      let v63 := x1 + (1 : Int32)
      q2 I J v63
    else
      if kdx σ t = 13 then
      ((R t 111) : Option Nat).bind fun a65 =>
      if (4 : Int32) ≤ x2 then
        if x2 = (4 : Int32) then
          ((R t 110) : Option Nat).bind fun a82 =>
          if kdx σ a82 = 20 then
          if ¬ (((12 : Int32) + x1) < 0 ∨ lnx σ a82 ≤ Int32.toNatClampNeg ((12 : Int32) + x1)) then
          if ¬ (((15 : Int32) + x1) < 0 ∨ lnx σ a82 ≤ Int32.toNatClampNeg ((15 : Int32) + x1)) then
          if kdx σ a65 = 21 then
          if ¬ ((((8 : Int32) * x1) + x2) < 0 ∨ lnx σ a65 ≤ Int32.toNatClampNeg (((8 : Int32) * x1) + x2)) then
          let J88 := u2 J a65 (Int32.toNatClampNeg (((8 : Int32) * x1) + x2)) (Int32.toInt64 ((I a82 (Int32.toNatClampNeg ((12 : Int32) + x1))) - (I a82 (Int32.toNatClampNeg ((15 : Int32) + x1)))))
          ((R t 112) : Option Nat).bind fun a89 =>
          if kdx σ a89 = 21 then
          if ¬ ((((8 : Int32) * x1) + x2) < 0 ∨ lnx σ a89 ≤ Int32.toNatClampNeg (((8 : Int32) * x1) + x2)) then
          let J92 := u2 J88 a89 (Int32.toNatClampNeg (((8 : Int32) * x1) + x2)) (1 : Int64)
          let v93 := x2 + (1 : Int32)
          fX12_work_l9 q2 σ R t n I J92 x1 v93
          else none
          else none
          else none
          else none
          else none
          else none
          else none
        else
          if (x2 - (5 : Int32)) = x1 then
            if kdx σ a65 = 21 then
            if ¬ ((((8 : Int32) * x1) + x2) < 0 ∨ lnx σ a65 ≤ Int32.toNatClampNeg (((8 : Int32) * x1) + x2)) then
            let J76 := u2 J a65 (Int32.toNatClampNeg (((8 : Int32) * x1) + x2)) (1 : Int64)
            ((R t 112) : Option Nat).bind fun a77 =>
            if kdx σ a77 = 21 then
            if ¬ ((((8 : Int32) * x1) + x2) < 0 ∨ lnx σ a77 ≤ Int32.toNatClampNeg (((8 : Int32) * x1) + x2)) then
            let J80 := u2 J76 a77 (Int32.toNatClampNeg (((8 : Int32) * x1) + x2)) (1 : Int64)
            let v81 := x2 + (1 : Int32)
            fX12_work_l9 q2 σ R t n I J80 x1 v81
            else none
            else none
            else none
            else none
          else
            if kdx σ a65 = 21 then
            if ¬ ((((8 : Int32) * x1) + x2) < 0 ∨ lnx σ a65 ≤ Int32.toNatClampNeg (((8 : Int32) * x1) + x2)) then
            let J68 := u2 J a65 (Int32.toNatClampNeg (((8 : Int32) * x1) + x2)) (0 : Int64)
            ((R t 112) : Option Nat).bind fun a69 =>
            if kdx σ a69 = 21 then
            if ¬ ((((8 : Int32) * x1) + x2) < 0 ∨ lnx σ a69 ≤ Int32.toNatClampNeg (((8 : Int32) * x1) + x2)) then
            let J72 := u2 J68 a69 (Int32.toNatClampNeg (((8 : Int32) * x1) + x2)) (1 : Int64)
            let v73 := x2 + (1 : Int32)
            fX12_work_l9 q2 σ R t n I J72 x1 v73
            else none
            else none
            else none
            else none
      else
        ((R t 110) : Option Nat).bind fun a94 =>
        if kdx σ a94 = 20 then
        if ¬ ((((3 : Int32) * x2) + x1) < 0 ∨ lnx σ a94 ≤ Int32.toNatClampNeg (((3 : Int32) * x2) + x1)) then
        if kdx σ a65 = 21 then
        if ¬ ((((8 : Int32) * x1) + x2) < 0 ∨ lnx σ a65 ≤ Int32.toNatClampNeg (((8 : Int32) * x1) + x2)) then
        let J99 := u2 J a65 (Int32.toNatClampNeg (((8 : Int32) * x1) + x2)) (Int32.toInt64 (I a94 (Int32.toNatClampNeg (((3 : Int32) * x2) + x1))))
        ((R t 112) : Option Nat).bind fun a100 =>
        if kdx σ a100 = 21 then
        if ¬ ((((8 : Int32) * x1) + x2) < 0 ∨ lnx σ a100 ≤ Int32.toNatClampNeg (((8 : Int32) * x1) + x2)) then
        let J103 := u2 J99 a100 (Int32.toNatClampNeg (((8 : Int32) * x1) + x2)) (1 : Int64)
        let v104 := x2 + (1 : Int32)
        fX12_work_l9 q2 σ R t n I J103 x1 v104
        else none
        else none
        else none
        else none
        else none
        else none
      else none
theorem wX12_work_l9 {G : Gx} {l : Launch} {σ : Shp} {D : Nat → Nat → UInt64} {R : Nat → Nat → Option Nat} {t : Nat} {I9 : Nat → Nat → Int32} {J9 : Nat → Nat → Int64} {r9 : Int32} {q2 : (Nat → Nat → Int32) → (Nat → Nat → Int64) → (Int32) → (Option ((Nat → Nat → Int32) × (Nat → Nat → Int64) × (Int32)))} (hq2 : ∀ (I : Nat → Nat → Int32) (J : Nat → Nat → Int64) (x1 : Int32), q2 I J x1 = some (I9, J9, r9) → WX12_work G l σ (σ, I9, J9, D, R) (some (vI r9)) (σ, I, J, D, R) 2 [(0, vR (some t)), (1, vI x1)] []) : ∀ (n : Nat) (I : Nat → Nat → Int32) (J : Nat → Nat → Int64) (x1 : Int32) (x2 : Int32), fX12_work_l9 q2 σ R t n I J x1 x2 = some (I9, J9, r9) → WX12_work G l σ (σ, I9, J9, D, R) (some (vI r9)) (σ, I, J, D, R) 9 [(0, vR (some t)), (1, vI x1), (2, vI x2)] [] := by
  intro n
  induction n with
  | zero =>
    intro I J x1 x2 h
    have h : none = some _ := h
    cases h
  | succ n ih =>
    intro I J x1 x2 h
    rw [fX12_work_l9] at h
    refine r_iload_n (pc := 9) dX12_work_9 rfl 2 rfl ?_
    refine r_bipush (pc := 10) dX12_work_10 kc_bipush_8 ?_
    refine r_icmp_ge (pc := 12) (tgt := 103) dX12_work_12 rfl (fun c => ?_) (fun c => ?_)
    · have h := it h c
      refine r_iinc (pc := 103) (v := (x1 + (1 : Int32))) (L' := [(1, vI (x1 + (1 : Int32))), (0, vR (some t)), (2, vI x2)]) dX12_work_103 1 rfl (kc_inc_1 _) (by decide) rfl ?_
      refine r_goto (pc := 106) (tgt := 2) dX12_work_106 rfl ?_
      refine r_sub [1, 0] rfl ?_
      exact hq2 _ _ _ h
    · have h := ie h c
      refine r_aload_n (pc := 15) dX12_work_15 rfl 0 rfl ?_
      obtain ⟨g64, h⟩ := gd h
      obtain ⟨a65, ha65, h⟩ := ob h
      refine r_getS (pc := 16) dX12_work_16 fgX12_257 rfl g64 ha65 ?_
      refine r_bipush (pc := 19) dX12_work_19 kc_bipush_8 ?_
      refine r_iload_n (pc := 21) dX12_work_21 rfl 1 rfl ?_
      refine r_imul (pc := 22) dX12_work_22 ?_
      refine r_iload_n (pc := 23) dX12_work_23 rfl 2 rfl ?_
      refine r_iadd (pc := 24) dX12_work_24 ?_
      refine r_iload_n (pc := 25) dX12_work_25 rfl 2 rfl ?_
      refine r_iconst (pc := 26) dX12_work_26 kc_iconst_4 ?_
      refine r_icmp_ge (pc := 27) (tgt := 44) dX12_work_27 rfl (fun c => ?_) (fun c => ?_)
      · have h := it h c
        refine r_iload_n (pc := 44) dX12_work_44 rfl 2 rfl ?_
        refine r_iconst (pc := 45) dX12_work_45 kc_iconst_4 ?_
        refine r_icmp_ne (pc := 46) (tgt := 72) dX12_work_46 rfl (fun c => ?_) (fun c => ?_)
        · have h := ie h c
          refine r_iload_n (pc := 72) dX12_work_72 rfl 2 rfl ?_
          refine r_iconst (pc := 73) dX12_work_73 kc_iconst_5 ?_
          refine r_isub (pc := 74) dX12_work_74 ?_
          refine r_iload_n (pc := 75) dX12_work_75 rfl 1 rfl ?_
          refine r_icmp_ne (pc := 76) (tgt := 83) dX12_work_76 rfl (fun c => ?_) (fun c => ?_)
          · have h := ie h c
            refine r_lconst (pc := 83) dX12_work_83 kc_lconst_0 ?_
            obtain ⟨g66, h⟩ := gd h
            obtain ⟨g67, h⟩ := gd h
            refine r_lastore (pc := 84) dX12_work_84 g66 g67 ?_
            refine r_aload_n (pc := 85) dX12_work_85 rfl 0 rfl ?_
            obtain ⟨a69, ha69, h⟩ := ob h
            refine r_getS (pc := 86) dX12_work_86 fgX12_260 rfl g64 ha69 ?_
            refine r_bipush (pc := 89) dX12_work_89 kc_bipush_8 ?_
            refine r_iload_n (pc := 91) dX12_work_91 rfl 1 rfl ?_
            refine r_imul (pc := 92) dX12_work_92 ?_
            refine r_iload_n (pc := 93) dX12_work_93 rfl 2 rfl ?_
            refine r_iadd (pc := 94) dX12_work_94 ?_
            refine r_lconst (pc := 95) dX12_work_95 kc_lconst_1 ?_
            obtain ⟨g70, h⟩ := gd h
            obtain ⟨g71, h⟩ := gd h
            refine r_lastore (pc := 96) dX12_work_96 g70 g71 ?_
            refine r_iinc (pc := 97) (v := (x2 + (1 : Int32))) (L' := [(2, vI (x2 + (1 : Int32))), (0, vR (some t)), (1, vI x1)]) dX12_work_97 2 rfl (kc_inc_1 _) (by decide) rfl ?_
            refine r_goto (pc := 100) (tgt := 9) dX12_work_100 rfl ?_
            refine r_sub [1, 2, 0] rfl ?_
            exact ih _ _ _ _ h
          · have h := it h c
            refine r_lconst (pc := 79) dX12_work_79 kc_lconst_1 ?_
            refine r_goto (pc := 80) (tgt := 84) dX12_work_80 rfl ?_
            obtain ⟨g74, h⟩ := gd h
            obtain ⟨g75, h⟩ := gd h
            refine r_lastore (pc := 84) dX12_work_84 g74 g75 ?_
            refine r_aload_n (pc := 85) dX12_work_85 rfl 0 rfl ?_
            obtain ⟨a77, ha77, h⟩ := ob h
            refine r_getS (pc := 86) dX12_work_86 fgX12_260 rfl g64 ha77 ?_
            refine r_bipush (pc := 89) dX12_work_89 kc_bipush_8 ?_
            refine r_iload_n (pc := 91) dX12_work_91 rfl 1 rfl ?_
            refine r_imul (pc := 92) dX12_work_92 ?_
            refine r_iload_n (pc := 93) dX12_work_93 rfl 2 rfl ?_
            refine r_iadd (pc := 94) dX12_work_94 ?_
            refine r_lconst (pc := 95) dX12_work_95 kc_lconst_1 ?_
            obtain ⟨g78, h⟩ := gd h
            obtain ⟨g79, h⟩ := gd h
            refine r_lastore (pc := 96) dX12_work_96 g78 g79 ?_
            refine r_iinc (pc := 97) (v := (x2 + (1 : Int32))) (L' := [(2, vI (x2 + (1 : Int32))), (0, vR (some t)), (1, vI x1)]) dX12_work_97 2 rfl (kc_inc_1 _) (by decide) rfl ?_
            refine r_goto (pc := 100) (tgt := 9) dX12_work_100 rfl ?_
            refine r_sub [1, 2, 0] rfl ?_
            exact ih _ _ _ _ h
        · have h := it h c
          refine r_aload_n (pc := 49) dX12_work_49 rfl 0 rfl ?_
          obtain ⟨a82, ha82, h⟩ := ob h
          refine r_getS (pc := 50) dX12_work_50 fgX12_254 rfl g64 ha82 ?_
          refine r_bipush (pc := 53) dX12_work_53 kc_bipush_12 ?_
          refine r_iload_n (pc := 55) dX12_work_55 rfl 1 rfl ?_
          refine r_iadd (pc := 56) dX12_work_56 ?_
          obtain ⟨g83, h⟩ := gd h
          obtain ⟨g84, h⟩ := gd h
          refine r_iaload (pc := 57) dX12_work_57 g83 g84 ?_
          refine r_aload_n (pc := 58) dX12_work_58 rfl 0 rfl ?_
          refine r_getS (pc := 59) dX12_work_59 fgX12_254 rfl g64 ha82 ?_
          refine r_bipush (pc := 62) dX12_work_62 kc_bipush_15 ?_
          refine r_iload_n (pc := 64) dX12_work_64 rfl 1 rfl ?_
          refine r_iadd (pc := 65) dX12_work_65 ?_
          obtain ⟨g85, h⟩ := gd h
          refine r_iaload (pc := 66) dX12_work_66 g83 g85 ?_
          refine r_isub (pc := 67) dX12_work_67 ?_
          refine r_i2l (pc := 68) dX12_work_68 ?_
          refine r_goto (pc := 69) (tgt := 84) dX12_work_69 rfl ?_
          obtain ⟨g86, h⟩ := gd h
          obtain ⟨g87, h⟩ := gd h
          refine r_lastore (pc := 84) dX12_work_84 g86 g87 ?_
          refine r_aload_n (pc := 85) dX12_work_85 rfl 0 rfl ?_
          obtain ⟨a89, ha89, h⟩ := ob h
          refine r_getS (pc := 86) dX12_work_86 fgX12_260 rfl g64 ha89 ?_
          refine r_bipush (pc := 89) dX12_work_89 kc_bipush_8 ?_
          refine r_iload_n (pc := 91) dX12_work_91 rfl 1 rfl ?_
          refine r_imul (pc := 92) dX12_work_92 ?_
          refine r_iload_n (pc := 93) dX12_work_93 rfl 2 rfl ?_
          refine r_iadd (pc := 94) dX12_work_94 ?_
          refine r_lconst (pc := 95) dX12_work_95 kc_lconst_1 ?_
          obtain ⟨g90, h⟩ := gd h
          obtain ⟨g91, h⟩ := gd h
          refine r_lastore (pc := 96) dX12_work_96 g90 g91 ?_
          refine r_iinc (pc := 97) (v := (x2 + (1 : Int32))) (L' := [(2, vI (x2 + (1 : Int32))), (0, vR (some t)), (1, vI x1)]) dX12_work_97 2 rfl (kc_inc_1 _) (by decide) rfl ?_
          refine r_goto (pc := 100) (tgt := 9) dX12_work_100 rfl ?_
          refine r_sub [1, 2, 0] rfl ?_
          exact ih _ _ _ _ h
      · have h := ie h c
        refine r_aload_n (pc := 30) dX12_work_30 rfl 0 rfl ?_
        obtain ⟨a94, ha94, h⟩ := ob h
        refine r_getS (pc := 31) dX12_work_31 fgX12_254 rfl g64 ha94 ?_
        refine r_iconst (pc := 34) dX12_work_34 kc_iconst_3 ?_
        refine r_iload_n (pc := 35) dX12_work_35 rfl 2 rfl ?_
        refine r_imul (pc := 36) dX12_work_36 ?_
        refine r_iload_n (pc := 37) dX12_work_37 rfl 1 rfl ?_
        refine r_iadd (pc := 38) dX12_work_38 ?_
        obtain ⟨g95, h⟩ := gd h
        obtain ⟨g96, h⟩ := gd h
        refine r_iaload (pc := 39) dX12_work_39 g95 g96 ?_
        refine r_i2l (pc := 40) dX12_work_40 ?_
        refine r_goto (pc := 41) (tgt := 84) dX12_work_41 rfl ?_
        obtain ⟨g97, h⟩ := gd h
        obtain ⟨g98, h⟩ := gd h
        refine r_lastore (pc := 84) dX12_work_84 g97 g98 ?_
        refine r_aload_n (pc := 85) dX12_work_85 rfl 0 rfl ?_
        obtain ⟨a100, ha100, h⟩ := ob h
        refine r_getS (pc := 86) dX12_work_86 fgX12_260 rfl g64 ha100 ?_
        refine r_bipush (pc := 89) dX12_work_89 kc_bipush_8 ?_
        refine r_iload_n (pc := 91) dX12_work_91 rfl 1 rfl ?_
        refine r_imul (pc := 92) dX12_work_92 ?_
        refine r_iload_n (pc := 93) dX12_work_93 rfl 2 rfl ?_
        refine r_iadd (pc := 94) dX12_work_94 ?_
        refine r_lconst (pc := 95) dX12_work_95 kc_lconst_1 ?_
        obtain ⟨g101, h⟩ := gd h
        obtain ⟨g102, h⟩ := gd h
        refine r_lastore (pc := 96) dX12_work_96 g101 g102 ?_
        refine r_iinc (pc := 97) (v := (x2 + (1 : Int32))) (L' := [(2, vI (x2 + (1 : Int32))), (0, vR (some t)), (1, vI x1)]) dX12_work_97 2 rfl (kc_inc_1 _) (by decide) rfl ?_
        refine r_goto (pc := 100) (tgt := 9) dX12_work_100 rfl ?_
        refine r_sub [1, 2, 0] rfl ?_
        exact ih _ _ _ _ h
def fX12_work_l2  (σ : Shp) (R : Nat → Nat → Option Nat) (t : Nat) : Nat → (Nat → Nat → Int32) → (Nat → Nat → Int64) → (Int32) → Option ((Nat → Nat → Int32) × (Nat → Nat → Int64) × (Int32))
  | 0, _, _, _ => none
  | n + 1, I, J, x1 =>
    if (3 : Int32) ≤ x1 then
      if kdx σ t = 13 then
      let I2 := u2 I t 114 (0 : Int32)
      fX12_work_l116 σ R t FUx I2 J (0 : Int32)
      else none
    else
      fX12_work_l9 (fX12_work_l2 σ R t n) σ R t FUx I J x1 (0 : Int32)
theorem wX12_work_l2 {G : Gx} {l : Launch} {σ : Shp} {D : Nat → Nat → UInt64} {R : Nat → Nat → Option Nat} {t : Nat} {I9 : Nat → Nat → Int32} {J9 : Nat → Nat → Int64} {r9 : Int32} : ∀ (n : Nat) (I : Nat → Nat → Int32) (J : Nat → Nat → Int64) (x1 : Int32), fX12_work_l2 σ R t n I J x1 = some (I9, J9, r9) → WX12_work G l σ (σ, I9, J9, D, R) (some (vI r9)) (σ, I, J, D, R) 2 [(0, vR (some t)), (1, vI x1)] [] := by
  intro n
  induction n with
  | zero =>
    intro I J x1 h
    have h : none = some _ := h
    cases h
  | succ n ih =>
    intro I J x1 h
    rw [fX12_work_l2] at h
    refine r_iload_n (pc := 2) dX12_work_2 rfl 1 rfl ?_
    refine r_iconst (pc := 3) dX12_work_3 kc_iconst_3 ?_
    refine r_icmp_ge (pc := 4) (tgt := 109) dX12_work_4 rfl (fun c => ?_) (fun c => ?_)
    · have h := it h c
      refine r_aload_n (pc := 109) dX12_work_109 rfl 0 rfl ?_
      refine r_iconst (pc := 110) dX12_work_110 kc_iconst_0 ?_
      obtain ⟨g1, h⟩ := gd h
      refine r_putI (pc := 111) dX12_work_111 fwX12_741 rfl g1 ?_
      refine r_iconst (pc := 114) dX12_work_114 kc_iconst_0 ?_
      refine r_istore_n (pc := 115) (L' := [(1, vI (0 : Int32)), (0, vR (some t))]) dX12_work_115 rfl (by decide) rfl ?_
      refine r_sub [1, 0] rfl ?_
      exact wX12_work_l116 _ _ _ _ h
    · have h := ie h c
      refine r_iconst (pc := 7) dX12_work_7 kc_iconst_0 ?_
      refine r_istore_n (pc := 8) (L' := [(2, vI (0 : Int32)), (0, vR (some t)), (1, vI x1)]) dX12_work_8 rfl (by decide) rfl ?_
      refine r_sub [1, 2, 0] rfl ?_
      exact wX12_work_l9 ih _ _ _ _ _ h
def fX12_work (σ : Shp) (I : Nat → Nat → Int32) (J : Nat → Nat → Int64) (R : Nat → Nat → Option Nat) (t : Nat)  : Option ((Nat → Nat → Int32) × (Nat → Nat → Int64) × (Int32)) :=
  fX12_work_l2 σ R t FUx I J (0 : Int32)
theorem kX12_work {G : Gx} {l : Launch} {σ : Shp} {I : Nat → Nat → Int32} {J : Nat → Nat → Int64} {D : Nat → Nat → UInt64} {R : Nat → Nat → Option Nat} {t : Nat}  {I9 : Nat → Nat → Int32} {J9 : Nat → Nat → Int64} {r9 : Int32} (h : fX12_work σ I J R t = some (I9, J9, r9)) : Con G l yX12_work cX12_work 3 (some .int) 4 123 [vR (some t)] (σ, I, J, D, R) (σ, I9, J9, D, R) (some (vI r9)) := by
  unfold fX12_work at h
  refine Con.mk (by decide +kernel) rfl (Nat.le_of_ble_eq_true rfl) ?_
  show WX12_work G l σ (σ, I9, J9, D, R) (some (vI r9)) (σ, I, J, D, R) 0 _ []
  refine r_iconst (pc := 0) dX12_work_0 kc_iconst_0 ?_
  refine r_istore_n (pc := 1) (L' := [(1, vI (0 : Int32)), (0, vR (some t))]) dX12_work_1 rfl (by decide) rfl ?_
  refine r_sub [1, 0] rfl ?_
  exact wX12_work_l2 _ _ _ _ h
abbrev WX12_worked (G : Gx) (l : Launch) (σ0 : Shp) (X1 : Stt) (rv : Option SV) : Stt → Nat → List (Nat × SV) → List SV → Prop := Wm G l yX12_worked cX12_worked 3 (some .long) (fun _ => True) (rmx 1 22 σ0 X1.1) σ0 (Qmx G σ0 X1 rv)
def fX12_worked (σ : Shp) (I : Nat → Nat → Int32) (J : Nat → Nat → Int64) (R : Nat → Nat → Option Nat) (t : Nat) (x1 : Int32) (x2 : Int32) : Option ((Int64)) :=
  if kdx σ t = 13 then
  if (I t 115) = 0 then
    some (0 : Int64)
  else
    if x1 = (0 : Int32) then
      if (I t 116) = 0 then
        if (fX12_in x2 (0 : Int32) (3 : Int32)) = 0 then
          some (0 : Int64)
        else
          ((R t 117) : Option Nat).bind fun a12 =>
          if kdx σ a12 = 21 then
          if ¬ (x2 < 0 ∨ lnx σ a12 ≤ Int32.toNatClampNeg x2) then
          some (J a12 (Int32.toNatClampNeg x2))
          else none
          else none
      else
        some (0 : Int64)
    else
    if x1 = (1 : Int32) then
      if (I t 116) = 0 then
        if (fX12_in x2 (0 : Int32) (3 : Int32)) = 0 then
          some (0 : Int64)
        else
          ((R t 118) : Option Nat).bind fun a9 =>
          if kdx σ a9 = 21 then
          if ¬ (x2 < 0 ∨ lnx σ a9 ≤ Int32.toNatClampNeg x2) then
          some (J a9 (Int32.toNatClampNeg x2))
          else none
          else none
      else
        some (0 : Int64)
    else
    if x1 = (2 : Int32) then
      if (I t 116) = 0 then
        some (0 : Int64)
      else
        if (fX12_in x2 (0 : Int32) (2 : Int32)) = 0 then
          some (0 : Int64)
        else
          ((R t 119) : Option Nat).bind fun a6 =>
          if kdx σ a6 = 21 then
          if ¬ (x2 < 0 ∨ lnx σ a6 ≤ Int32.toNatClampNeg x2) then
          some (J a6 (Int32.toNatClampNeg x2))
          else none
          else none
    else
    if x1 = (3 : Int32) then
      some (Int32.toInt64 (I t 114))
    else
    some (0 : Int64)
  else none
theorem kX12_worked {G : Gx} {l : Launch} {σ : Shp} {I : Nat → Nat → Int32} {J : Nat → Nat → Int64} {D : Nat → Nat → UInt64} {R : Nat → Nat → Option Nat} {t : Nat} {x1 : Int32} {x2 : Int32} {r9 : Int64} (h : fX12_worked σ I J R t x1 x2 = some r9) : Con G l yX12_worked cX12_worked 3 (some .long) 1 22 [vR (some t), vI x1, vI x2] (σ, I, J, D, R) (σ, I, J, D, R) (some (vL r9)) := by
  unfold fX12_worked at h
  refine Con.mk (by decide +kernel) rfl (Nat.le_of_ble_eq_true rfl) ?_
  show WX12_worked G l σ (σ, I, J, D, R) (some (vL r9)) (σ, I, J, D, R) 0 _ []
  refine r_aload_n (pc := 0) dX12_worked_0 rfl 0 rfl ?_
  obtain ⟨g1, h⟩ := gd h
  refine r_getI (pc := 1) dX12_worked_1 fgX12_754 rfl g1 ?_
  refine r_ifne (pc := 4) (tgt := 9) dX12_worked_4 rfl (fun c => ?_) (fun c => ?_)
  · have h := ie h c
    refine r_iload_n (pc := 9) dX12_worked_9 rfl 1 rfl ?_
    rcases itc h with ⟨c2, h⟩ | ⟨c2, h⟩
    · refine r_tsIn (x := x1) (pc := 10) (tgt := 40) dX12_worked_10 (by rw [c2]; decide) (by rw [c2]; decide) (by rw [c2]; rfl) rfl ?_
      refine r_aload_n (pc := 40) dX12_worked_40 rfl 0 rfl ?_
      refine r_getI (pc := 41) dX12_worked_41 fgX12_758 rfl g1 ?_
      refine r_ifne (pc := 44) (tgt := 65) dX12_worked_44 rfl (fun c => ?_) (fun c => ?_)
      · have h := ie h c
        refine r_lconst (pc := 65) dX12_worked_65 kc_lconst_0 ?_
        cases h
        exact r_lret dX12_worked_66
      · have h := it h c
        refine r_iload_n (pc := 47) dX12_worked_47 rfl 2 rfl ?_
        refine r_iconst (pc := 48) dX12_worked_48 kc_iconst_0 ?_
        refine r_iconst (pc := 49) dX12_worked_49 kc_iconst_3 ?_
        refine r_callS1 (pc := 50) (av := [vI x2, vI (0 : Int32), vI (3 : Int32)]) (S := []) dX12_worked_50 (kX12_in rfl) mkX12_322 mwX12_in rfl ⟨Nat.le_of_ble_eq_true rfl, Nat.le_of_ble_eq_true rfl⟩ (Nat.le_of_ble_eq_true rfl) ⟨Nat.le_refl _, Nat.le_refl _⟩ (fun b => b) ?_
        refine r_if_eq (pc := 53) (tgt := 65) dX12_worked_53 rfl (fun c => ?_) (fun c => ?_)
        · have h := it h c
          refine r_lconst (pc := 65) dX12_worked_65 kc_lconst_0 ?_
          cases h
          exact r_lret dX12_worked_66
        · have h := ie h c
          refine r_aload_n (pc := 56) dX12_worked_56 rfl 0 rfl ?_
          obtain ⟨a12, ha12, h⟩ := ob h
          refine r_getS (pc := 57) dX12_worked_57 fgX12_266 rfl g1 ha12 ?_
          refine r_iload_n (pc := 60) dX12_worked_60 rfl 2 rfl ?_
          obtain ⟨g13, h⟩ := gd h
          obtain ⟨g14, h⟩ := gd h
          refine r_laload (pc := 61) dX12_worked_61 g13 g14 ?_
          refine r_goto (pc := 62) (tgt := 66) dX12_worked_62 rfl ?_
          cases h
          exact r_lret dX12_worked_66
    · rcases itc h with ⟨c3, h⟩ | ⟨c3, h⟩
      · refine r_tsIn (x := x1) (pc := 10) (tgt := 67) dX12_worked_10 (by rw [c3]; decide) (by rw [c3]; decide) (by rw [c3]; rfl) rfl ?_
        refine r_aload_n (pc := 67) dX12_worked_67 rfl 0 rfl ?_
        refine r_getI (pc := 68) dX12_worked_68 fgX12_758 rfl g1 ?_
        refine r_ifne (pc := 71) (tgt := 92) dX12_worked_71 rfl (fun c => ?_) (fun c => ?_)
        · have h := ie h c
          refine r_lconst (pc := 92) dX12_worked_92 kc_lconst_0 ?_
          cases h
          exact r_lret dX12_worked_93
        · have h := it h c
          refine r_iload_n (pc := 74) dX12_worked_74 rfl 2 rfl ?_
          refine r_iconst (pc := 75) dX12_worked_75 kc_iconst_0 ?_
          refine r_iconst (pc := 76) dX12_worked_76 kc_iconst_3 ?_
          refine r_callS1 (pc := 77) (av := [vI x2, vI (0 : Int32), vI (3 : Int32)]) (S := []) dX12_worked_77 (kX12_in rfl) mkX12_322 mwX12_in rfl ⟨Nat.le_of_ble_eq_true rfl, Nat.le_of_ble_eq_true rfl⟩ (Nat.le_of_ble_eq_true rfl) ⟨Nat.le_refl _, Nat.le_refl _⟩ (fun b => b) ?_
          refine r_if_eq (pc := 80) (tgt := 92) dX12_worked_80 rfl (fun c => ?_) (fun c => ?_)
          · have h := it h c
            refine r_lconst (pc := 92) dX12_worked_92 kc_lconst_0 ?_
            cases h
            exact r_lret dX12_worked_93
          · have h := ie h c
            refine r_aload_n (pc := 83) dX12_worked_83 rfl 0 rfl ?_
            obtain ⟨a9, ha9, h⟩ := ob h
            refine r_getS (pc := 84) dX12_worked_84 fgX12_269 rfl g1 ha9 ?_
            refine r_iload_n (pc := 87) dX12_worked_87 rfl 2 rfl ?_
            obtain ⟨g10, h⟩ := gd h
            obtain ⟨g11, h⟩ := gd h
            refine r_laload (pc := 88) dX12_worked_88 g10 g11 ?_
            refine r_goto (pc := 89) (tgt := 93) dX12_worked_89 rfl ?_
            cases h
            exact r_lret dX12_worked_93
      · rcases itc h with ⟨c4, h⟩ | ⟨c4, h⟩
        · refine r_tsIn (x := x1) (pc := 10) (tgt := 94) dX12_worked_10 (by rw [c4]; decide) (by rw [c4]; decide) (by rw [c4]; rfl) rfl ?_
          refine r_aload_n (pc := 94) dX12_worked_94 rfl 0 rfl ?_
          refine r_getI (pc := 95) dX12_worked_95 fgX12_758 rfl g1 ?_
          refine r_if_eq (pc := 98) (tgt := 119) dX12_worked_98 rfl (fun c => ?_) (fun c => ?_)
          · have h := it h c
            refine r_lconst (pc := 119) dX12_worked_119 kc_lconst_0 ?_
            cases h
            exact r_lret dX12_worked_120
          · have h := ie h c
            refine r_iload_n (pc := 101) dX12_worked_101 rfl 2 rfl ?_
            refine r_iconst (pc := 102) dX12_worked_102 kc_iconst_0 ?_
            refine r_iconst (pc := 103) dX12_worked_103 kc_iconst_2 ?_
            refine r_callS1 (pc := 104) (av := [vI x2, vI (0 : Int32), vI (2 : Int32)]) (S := []) dX12_worked_104 (kX12_in rfl) mkX12_322 mwX12_in rfl ⟨Nat.le_of_ble_eq_true rfl, Nat.le_of_ble_eq_true rfl⟩ (Nat.le_of_ble_eq_true rfl) ⟨Nat.le_refl _, Nat.le_refl _⟩ (fun b => b) ?_
            refine r_if_eq (pc := 107) (tgt := 119) dX12_worked_107 rfl (fun c => ?_) (fun c => ?_)
            · have h := it h c
              refine r_lconst (pc := 119) dX12_worked_119 kc_lconst_0 ?_
              cases h
              exact r_lret dX12_worked_120
            · have h := ie h c
              refine r_aload_n (pc := 110) dX12_worked_110 rfl 0 rfl ?_
              obtain ⟨a6, ha6, h⟩ := ob h
              refine r_getS (pc := 111) dX12_worked_111 fgX12_272 rfl g1 ha6 ?_
              refine r_iload_n (pc := 114) dX12_worked_114 rfl 2 rfl ?_
              obtain ⟨g7, h⟩ := gd h
              obtain ⟨g8, h⟩ := gd h
              refine r_laload (pc := 115) dX12_worked_115 g7 g8 ?_
              refine r_goto (pc := 116) (tgt := 120) dX12_worked_116 rfl ?_
              cases h
              exact r_lret dX12_worked_120
        · rcases itc h with ⟨c5, h⟩ | ⟨c5, h⟩
          · refine r_tsIn (x := x1) (pc := 10) (tgt := 121) dX12_worked_10 (by rw [c5]; decide) (by rw [c5]; decide) (by rw [c5]; rfl) rfl ?_
            refine r_aload_n (pc := 121) dX12_worked_121 rfl 0 rfl ?_
            refine r_getI (pc := 122) dX12_worked_122 fgX12_741 rfl g1 ?_
            refine r_i2l (pc := 125) dX12_worked_125 ?_
            cases h
            exact r_lret dX12_worked_126
          · refine r_tsOut (x := x1) (pc := 10) (tgt := 127) dX12_worked_10 (by have ec2 := i32n c2 (k := 0) rfl; have ec3 := i32n c3 (k := 1) rfl; have ec4 := i32n c4 (k := 2) rfl; have ec5 := i32n c5 (k := 3) rfl; omega) rfl ?_
            refine r_lconst (pc := 127) dX12_worked_127 kc_lconst_0 ?_
            cases h
            exact r_lret dX12_worked_128
  · have h := it h c
    refine r_lconst (pc := 7) dX12_worked_7 kc_lconst_0 ?_
    cases h
    exact r_lret dX12_worked_8
abbrev WX12_isStage (G : Gx) (l : Launch) (σ0 : Shp) (X1 : Stt) (rv : Option SV) : Stt → Nat → List (Nat × SV) → List SV → Prop := Wm G l yX12_isStage cX12_isStage 2 (some .boolean) (fun _ => True) (rmx 1 22 σ0 X1.1) σ0 (Qmx G σ0 X1 rv)
def fX12_isStage  (x0 : Int32) (x1 : Int32) : (Int32) :=
  if (fX12_in x0 (0 : Int32) (1 : Int32)) = 0 then
    (0 : Int32)
  else
    if (fX12_in x1 (0 : Int32) (3 : Int32)) = 0 then
      (0 : Int32)
    else
      (1 : Int32)
theorem zX12_isStage  (x0 : Int32) (x1 : Int32) : fX12_isStage x0 x1 = 0 ∨ fX12_isStage x0 x1 = 1 := by
  unfold fX12_isStage
  repeat' (first | refine itz ?_ ?_ | exact Or.inl rfl | exact Or.inr rfl | exact zX12_in _ _ _)
theorem kX12_isStage {G : Gx} {l : Launch} {σ : Shp} {I : Nat → Nat → Int32} {J : Nat → Nat → Int64} {D : Nat → Nat → UInt64} {R : Nat → Nat → Option Nat} {x0 : Int32} {x1 : Int32} {r9 : Int32} (h : fX12_isStage x0 x1 = r9) : Con G l yX12_isStage cX12_isStage 2 (some .boolean) 1 22 [vI x0, vI x1] (σ, I, J, D, R) (σ, I, J, D, R) (some (vI r9)) := by
  unfold fX12_isStage at h
  refine Con.mk (by decide +kernel) rfl (Nat.le_of_ble_eq_true rfl) ?_
  show WX12_isStage G l σ (σ, I, J, D, R) (some (vI r9)) (σ, I, J, D, R) 0 _ []
  refine r_iload_n (pc := 0) dX12_isStage_0 rfl 0 rfl ?_
  refine r_iconst (pc := 1) dX12_isStage_1 kc_iconst_0 ?_
  refine r_iconst (pc := 2) dX12_isStage_2 kc_iconst_1 ?_
  refine r_callS1 (pc := 3) (av := [vI x0, vI (0 : Int32), vI (1 : Int32)]) (S := []) dX12_isStage_3 (kX12_in rfl) mkX12_322 mwX12_in rfl ⟨Nat.le_of_ble_eq_true rfl, Nat.le_of_ble_eq_true rfl⟩ (Nat.le_of_ble_eq_true rfl) ⟨Nat.le_refl _, Nat.le_refl _⟩ (fun b => b) ?_
  refine r_if_eq (pc := 6) (tgt := 22) dX12_isStage_6 rfl (fun c => ?_) (fun c => ?_)
  · have h := it h c
    refine r_iconst (pc := 22) dX12_isStage_22 kc_iconst_0 ?_
    subst h
    exact r_zret dX12_isStage_23 (Or.inl rfl)
  · have h := ie h c
    refine r_iload_n (pc := 9) dX12_isStage_9 rfl 1 rfl ?_
    refine r_iconst (pc := 10) dX12_isStage_10 kc_iconst_0 ?_
    refine r_iconst (pc := 11) dX12_isStage_11 kc_iconst_3 ?_
    refine r_callS1 (pc := 12) (av := [vI x1, vI (0 : Int32), vI (3 : Int32)]) (S := []) dX12_isStage_12 (kX12_in rfl) mkX12_322 mwX12_in rfl ⟨Nat.le_of_ble_eq_true rfl, Nat.le_of_ble_eq_true rfl⟩ (Nat.le_of_ble_eq_true rfl) ⟨Nat.le_refl _, Nat.le_refl _⟩ (fun b => b) ?_
    refine r_if_eq (pc := 15) (tgt := 22) dX12_isStage_15 rfl (fun c => ?_) (fun c => ?_)
    · have h := it h c
      refine r_iconst (pc := 22) dX12_isStage_22 kc_iconst_0 ?_
      subst h
      exact r_zret dX12_isStage_23 (Or.inl rfl)
    · have h := ie h c
      refine r_iconst (pc := 18) dX12_isStage_18 kc_iconst_1 ?_
      refine r_goto (pc := 19) (tgt := 23) dX12_isStage_19 rfl ?_
      subst h
      exact r_zret dX12_isStage_23 (Or.inr rfl)
abbrev WX12_count (G : Gx) (l : Launch) (σ0 : Shp) (X1 : Stt) (rv : Option SV) : Stt → Nat → List (Nat × SV) → List SV → Prop := Wm G l yX12_count cX12_count 4 (some .int) (fun _ => True) (rmx 2 43 σ0 X1.1) σ0 (Qmx G σ0 X1 rv)
def fX12_count (σ : Shp) (J : Nat → Nat → Int64) (R : Nat → Nat → Option Nat) (t : Nat) (x1 : Int32) (x2 : Int32) (x3 : Int32) : Option ((Nat → Nat → Int64) × (Int32)) :=
  if (fX12_isStage x1 x2) = 0 then
    some (J, (-2 : Int32))
  else
    if (fX12_in x3 (0 : Int32) (1000000000 : Int32)) = 0 then
      some (J, (-2 : Int32))
    else
      if kdx σ t = 13 then
      ((R t 120) : Option Nat).bind fun a2 =>
      if kdx σ a2 = 21 then
      if ¬ ((((4 : Int32) * x1) + x2) < 0 ∨ lnx σ a2 ≤ Int32.toNatClampNeg (((4 : Int32) * x1) + x2)) then
      let J5 := u2 J a2 (Int32.toNatClampNeg (((4 : Int32) * x1) + x2)) (Int32.toInt64 x3)
      some (J5, (1 : Int32))
      else none
      else none
      else none
theorem kX12_count {G : Gx} {l : Launch} {σ : Shp} {I : Nat → Nat → Int32} {J : Nat → Nat → Int64} {D : Nat → Nat → UInt64} {R : Nat → Nat → Option Nat} {t : Nat} {x1 : Int32} {x2 : Int32} {x3 : Int32} {J9 : Nat → Nat → Int64} {r9 : Int32} (h : fX12_count σ J R t x1 x2 x3 = some (J9, r9)) : Con G l yX12_count cX12_count 4 (some .int) 2 43 [vR (some t), vI x1, vI x2, vI x3] (σ, I, J, D, R) (σ, I, J9, D, R) (some (vI r9)) := by
  unfold fX12_count at h
  refine Con.mk (by decide +kernel) rfl (Nat.le_of_ble_eq_true rfl) ?_
  show WX12_count G l σ (σ, I, J9, D, R) (some (vI r9)) (σ, I, J, D, R) 0 _ []
  refine r_iload_n (pc := 0) dX12_count_0 rfl 1 rfl ?_
  refine r_iload_n (pc := 1) dX12_count_1 rfl 2 rfl ?_
  refine r_callS1 (pc := 2) (av := [vI x1, vI x2]) (S := []) dX12_count_2 (kX12_isStage rfl) mkX12_764 mwX12_isStage rfl ⟨Nat.le_of_ble_eq_true rfl, Nat.le_of_ble_eq_true rfl⟩ (Nat.le_of_ble_eq_true rfl) ⟨Nat.le_refl _, Nat.le_refl _⟩ (fun b => b) ?_
  refine r_if_eq (pc := 5) (tgt := 19) dX12_count_5 rfl (fun c => ?_) (fun c => ?_)
  · have h := it h c
    refine r_bipush (pc := 19) dX12_count_19 kc_bipush_m2 ?_
    cases h
    exact r_iret dX12_count_21
  · have h := ie h c
    refine r_iload_n (pc := 8) dX12_count_8 rfl 3 rfl ?_
    refine r_iconst (pc := 9) dX12_count_9 kc_iconst_0 ?_
    refine r_ldcw (pc := 10) dX12_count_10 ciX12_702 ?_
    refine r_callS1 (pc := 13) (av := [vI x3, vI (0 : Int32), vI (1000000000 : Int32)]) (S := []) dX12_count_13 (kX12_in rfl) mkX12_322 mwX12_in rfl ⟨Nat.le_of_ble_eq_true rfl, Nat.le_of_ble_eq_true rfl⟩ (Nat.le_of_ble_eq_true rfl) ⟨Nat.le_refl _, Nat.le_refl _⟩ (fun b => b) ?_
    refine r_ifne (pc := 16) (tgt := 22) dX12_count_16 rfl (fun c => ?_) (fun c => ?_)
    · have h := ie h c
      refine r_aload_n (pc := 22) dX12_count_22 rfl 0 rfl ?_
      obtain ⟨g1, h⟩ := gd h
      obtain ⟨a2, ha2, h⟩ := ob h
      refine r_getS (pc := 23) dX12_count_23 fgX12_275 rfl g1 ha2 ?_
      refine r_iconst (pc := 26) dX12_count_26 kc_iconst_4 ?_
      refine r_iload_n (pc := 27) dX12_count_27 rfl 1 rfl ?_
      refine r_imul (pc := 28) dX12_count_28 ?_
      refine r_iload_n (pc := 29) dX12_count_29 rfl 2 rfl ?_
      refine r_iadd (pc := 30) dX12_count_30 ?_
      refine r_iload_n (pc := 31) dX12_count_31 rfl 3 rfl ?_
      refine r_i2l (pc := 32) dX12_count_32 ?_
      obtain ⟨g3, h⟩ := gd h
      obtain ⟨g4, h⟩ := gd h
      refine r_lastore (pc := 33) dX12_count_33 g3 g4 ?_
      refine r_iconst (pc := 34) dX12_count_34 kc_iconst_1 ?_
      cases h
      exact r_iret dX12_count_35
    · have h := it h c
      refine r_bipush (pc := 19) dX12_count_19 kc_bipush_m2 ?_
      cases h
      exact r_iret dX12_count_21
abbrev WX12_parts (G : Gx) (l : Launch) (σ0 : Shp) (X1 : Stt) (rv : Option SV) : Stt → Nat → List (Nat × SV) → List SV → Prop := Wm G l yX12_parts cX12_parts 6 (some .int) (fun _ => True) (rmx 2 43 σ0 X1.1) σ0 (Qmx G σ0 X1 rv)
def fX12_parts (σ : Shp) (I : Nat → Nat → Int32) (R : Nat → Nat → Option Nat) (t : Nat) (x1 : Int32) (x2 : Int32) (x3 : Int32) (x4 : Int32) (x5 : Int32) : Option ((Nat → Nat → Int32) × (Int32)) :=
  if (fX12_isStage x1 x2) = 0 then
    some (I, (-2 : Int32))
  else
    if (fX12_in x3 (0 : Int32) (1000 : Int32)) = 0 then
      some (I, (-2 : Int32))
    else
      if (fX12_in x4 (0 : Int32) (1000 : Int32)) = 0 then
        some (I, (-2 : Int32))
      else
        if (fX12_in x5 (0 : Int32) (1000 : Int32)) = 0 then
          some (I, (-2 : Int32))
        else
          if kdx σ t = 13 then
          ((R t 121) : Option Nat).bind fun a2 =>
          if kdx σ a2 = 20 then
          if ¬ ((((4 : Int32) * x1) + x2) < 0 ∨ lnx σ a2 ≤ Int32.toNatClampNeg (((4 : Int32) * x1) + x2)) then
          let I5 := u2 I a2 (Int32.toNatClampNeg (((4 : Int32) * x1) + x2)) x3
          ((R t 122) : Option Nat).bind fun a6 =>
          if kdx σ a6 = 20 then
          if ¬ ((((4 : Int32) * x1) + x2) < 0 ∨ lnx σ a6 ≤ Int32.toNatClampNeg (((4 : Int32) * x1) + x2)) then
          let I9 := u2 I5 a6 (Int32.toNatClampNeg (((4 : Int32) * x1) + x2)) x4
          ((R t 123) : Option Nat).bind fun a10 =>
          if kdx σ a10 = 20 then
          if ¬ ((((4 : Int32) * x1) + x2) < 0 ∨ lnx σ a10 ≤ Int32.toNatClampNeg (((4 : Int32) * x1) + x2)) then
          let I13 := u2 I9 a10 (Int32.toNatClampNeg (((4 : Int32) * x1) + x2)) x5
          some (I13, (1 : Int32))
          else none
          else none
          else none
          else none
          else none
          else none
          else none
theorem kX12_parts {G : Gx} {l : Launch} {σ : Shp} {I : Nat → Nat → Int32} {J : Nat → Nat → Int64} {D : Nat → Nat → UInt64} {R : Nat → Nat → Option Nat} {t : Nat} {x1 : Int32} {x2 : Int32} {x3 : Int32} {x4 : Int32} {x5 : Int32} {I9 : Nat → Nat → Int32} {r9 : Int32} (h : fX12_parts σ I R t x1 x2 x3 x4 x5 = some (I9, r9)) : Con G l yX12_parts cX12_parts 6 (some .int) 2 43 [vR (some t), vI x1, vI x2, vI x3, vI x4, vI x5] (σ, I, J, D, R) (σ, I9, J, D, R) (some (vI r9)) := by
  unfold fX12_parts at h
  refine Con.mk (by decide +kernel) rfl (Nat.le_of_ble_eq_true rfl) ?_
  show WX12_parts G l σ (σ, I9, J, D, R) (some (vI r9)) (σ, I, J, D, R) 0 _ []
  refine r_iload_n (pc := 0) dX12_parts_0 rfl 1 rfl ?_
  refine r_iload_n (pc := 1) dX12_parts_1 rfl 2 rfl ?_
  refine r_callS1 (pc := 2) (av := [vI x1, vI x2]) (S := []) dX12_parts_2 (kX12_isStage rfl) mkX12_764 mwX12_isStage rfl ⟨Nat.le_of_ble_eq_true rfl, Nat.le_of_ble_eq_true rfl⟩ (Nat.le_of_ble_eq_true rfl) ⟨Nat.le_refl _, Nat.le_refl _⟩ (fun b => b) ?_
  refine r_if_eq (pc := 5) (tgt := 43) dX12_parts_5 rfl (fun c => ?_) (fun c => ?_)
  · have h := it h c
    refine r_bipush (pc := 43) dX12_parts_43 kc_bipush_m2 ?_
    cases h
    exact r_iret dX12_parts_45
  · have h := ie h c
    refine r_iload_n (pc := 8) dX12_parts_8 rfl 3 rfl ?_
    refine r_iconst (pc := 9) dX12_parts_9 kc_iconst_0 ?_
    refine r_sipush (pc := 10) dX12_parts_10 kc_sipush_1000 ?_
    refine r_callS1 (pc := 13) (av := [vI x3, vI (0 : Int32), vI (1000 : Int32)]) (S := []) dX12_parts_13 (kX12_in rfl) mkX12_322 mwX12_in rfl ⟨Nat.le_of_ble_eq_true rfl, Nat.le_of_ble_eq_true rfl⟩ (Nat.le_of_ble_eq_true rfl) ⟨Nat.le_refl _, Nat.le_refl _⟩ (fun b => b) ?_
    refine r_if_eq (pc := 16) (tgt := 43) dX12_parts_16 rfl (fun c => ?_) (fun c => ?_)
    · have h := it h c
      refine r_bipush (pc := 43) dX12_parts_43 kc_bipush_m2 ?_
      cases h
      exact r_iret dX12_parts_45
    · have h := ie h c
      refine r_iload (pc := 19) dX12_parts_19 4 rfl ?_
      refine r_iconst (pc := 21) dX12_parts_21 kc_iconst_0 ?_
      refine r_sipush (pc := 22) dX12_parts_22 kc_sipush_1000 ?_
      refine r_callS1 (pc := 25) (av := [vI x4, vI (0 : Int32), vI (1000 : Int32)]) (S := []) dX12_parts_25 (kX12_in rfl) mkX12_322 mwX12_in rfl ⟨Nat.le_of_ble_eq_true rfl, Nat.le_of_ble_eq_true rfl⟩ (Nat.le_of_ble_eq_true rfl) ⟨Nat.le_refl _, Nat.le_refl _⟩ (fun b => b) ?_
      refine r_if_eq (pc := 28) (tgt := 43) dX12_parts_28 rfl (fun c => ?_) (fun c => ?_)
      · have h := it h c
        refine r_bipush (pc := 43) dX12_parts_43 kc_bipush_m2 ?_
        cases h
        exact r_iret dX12_parts_45
      · have h := ie h c
        refine r_iload (pc := 31) dX12_parts_31 5 rfl ?_
        refine r_iconst (pc := 33) dX12_parts_33 kc_iconst_0 ?_
        refine r_sipush (pc := 34) dX12_parts_34 kc_sipush_1000 ?_
        refine r_callS1 (pc := 37) (av := [vI x5, vI (0 : Int32), vI (1000 : Int32)]) (S := []) dX12_parts_37 (kX12_in rfl) mkX12_322 mwX12_in rfl ⟨Nat.le_of_ble_eq_true rfl, Nat.le_of_ble_eq_true rfl⟩ (Nat.le_of_ble_eq_true rfl) ⟨Nat.le_refl _, Nat.le_refl _⟩ (fun b => b) ?_
        refine r_ifne (pc := 40) (tgt := 46) dX12_parts_40 rfl (fun c => ?_) (fun c => ?_)
        · have h := ie h c
          refine r_aload_n (pc := 46) dX12_parts_46 rfl 0 rfl ?_
          obtain ⟨g1, h⟩ := gd h
          obtain ⟨a2, ha2, h⟩ := ob h
          refine r_getS (pc := 47) dX12_parts_47 fgX12_278 rfl g1 ha2 ?_
          refine r_iconst (pc := 50) dX12_parts_50 kc_iconst_4 ?_
          refine r_iload_n (pc := 51) dX12_parts_51 rfl 1 rfl ?_
          refine r_imul (pc := 52) dX12_parts_52 ?_
          refine r_iload_n (pc := 53) dX12_parts_53 rfl 2 rfl ?_
          refine r_iadd (pc := 54) dX12_parts_54 ?_
          refine r_iload_n (pc := 55) dX12_parts_55 rfl 3 rfl ?_
          obtain ⟨g3, h⟩ := gd h
          obtain ⟨g4, h⟩ := gd h
          refine r_iastore (pc := 56) dX12_parts_56 g3 g4 ?_
          refine r_aload_n (pc := 57) dX12_parts_57 rfl 0 rfl ?_
          obtain ⟨a6, ha6, h⟩ := ob h
          refine r_getS (pc := 58) dX12_parts_58 fgX12_281 rfl g1 ha6 ?_
          refine r_iconst (pc := 61) dX12_parts_61 kc_iconst_4 ?_
          refine r_iload_n (pc := 62) dX12_parts_62 rfl 1 rfl ?_
          refine r_imul (pc := 63) dX12_parts_63 ?_
          refine r_iload_n (pc := 64) dX12_parts_64 rfl 2 rfl ?_
          refine r_iadd (pc := 65) dX12_parts_65 ?_
          refine r_iload (pc := 66) dX12_parts_66 4 rfl ?_
          obtain ⟨g7, h⟩ := gd h
          obtain ⟨g8, h⟩ := gd h
          refine r_iastore (pc := 68) dX12_parts_68 g7 g8 ?_
          refine r_aload_n (pc := 69) dX12_parts_69 rfl 0 rfl ?_
          obtain ⟨a10, ha10, h⟩ := ob h
          refine r_getS (pc := 70) dX12_parts_70 fgX12_284 rfl g1 ha10 ?_
          refine r_iconst (pc := 73) dX12_parts_73 kc_iconst_4 ?_
          refine r_iload_n (pc := 74) dX12_parts_74 rfl 1 rfl ?_
          refine r_imul (pc := 75) dX12_parts_75 ?_
          refine r_iload_n (pc := 76) dX12_parts_76 rfl 2 rfl ?_
          refine r_iadd (pc := 77) dX12_parts_77 ?_
          refine r_iload (pc := 78) dX12_parts_78 5 rfl ?_
          obtain ⟨g11, h⟩ := gd h
          obtain ⟨g12, h⟩ := gd h
          refine r_iastore (pc := 80) dX12_parts_80 g11 g12 ?_
          refine r_iconst (pc := 81) dX12_parts_81 kc_iconst_1 ?_
          cases h
          exact r_iret dX12_parts_82
        · have h := it h c
          refine r_bipush (pc := 43) dX12_parts_43 kc_bipush_m2 ?_
          cases h
          exact r_iret dX12_parts_45
abbrev WX12_oneDay (G : Gx) (l : Launch) (σ0 : Shp) (X1 : Stt) (rv : Option SV) : Stt → Nat → List (Nat × SV) → List SV → Prop := Wm G l yX12_oneDay cX12_oneDay 4 none (fun _ => True) (rmx 1 29 σ0 X1.1) σ0 (Qmx G σ0 X1 rv)
def fX12_oneDay_l180  (σ : Shp) (I : Nat → Nat → Int32) (R : Nat → Nat → Option Nat) (t : Nat) : Nat → (Nat → Nat → Int64) → (Int32) → (Int32) → Option ((Nat → Nat → Int64))
  | 0, _, _, _ => none
  | n + 1, J, x1, x2 =>
    if (4 : Int32) ≤ x2 then
      some J
    else
      if kdx σ t = 13 then
      ((R t 120) : Option Nat).bind fun a13 =>
      ((R t 124) : Option Nat).bind fun a14 =>
      if kdx σ a14 = 21 then
      if ¬ ((((4 : Int32) * x1) + x2) < 0 ∨ lnx σ a14 ≤ Int32.toNatClampNeg (((4 : Int32) * x1) + x2)) then
      if (J a14 (Int32.toNatClampNeg (((4 : Int32) * x1) + x2))) ≤ (1000000000 : Int64) then
        if kdx σ a13 = 21 then
        if ¬ ((((4 : Int32) * x1) + x2) < 0 ∨ lnx σ a13 ≤ Int32.toNatClampNeg (((4 : Int32) * x1) + x2)) then
        let J19 := u2 J a13 (Int32.toNatClampNeg (((4 : Int32) * x1) + x2)) (J a14 (Int32.toNatClampNeg (((4 : Int32) * x1) + x2)))
        let v20 := x2 + (1 : Int32)
        fX12_oneDay_l180 σ I R t n J19 x1 v20
        else none
        else none
      else
        if kdx σ a13 = 21 then
        if ¬ ((((4 : Int32) * x1) + x2) < 0 ∨ lnx σ a13 ≤ Int32.toNatClampNeg (((4 : Int32) * x1) + x2)) then
        let J23 := u2 J a13 (Int32.toNatClampNeg (((4 : Int32) * x1) + x2)) (1000000000 : Int64)
        let v24 := x2 + (1 : Int32)
        fX12_oneDay_l180 σ I R t n J23 x1 v24
        else none
        else none
      else none
      else none
      else none
theorem wX12_oneDay_l180 {G : Gx} {l : Launch} {σ : Shp} {I : Nat → Nat → Int32} {D : Nat → Nat → UInt64} {R : Nat → Nat → Option Nat} {t : Nat} {J9 : Nat → Nat → Int64} : ∀ (n : Nat) (J : Nat → Nat → Int64) (x1 : Int32) (x2 : Int32), fX12_oneDay_l180 σ I R t n J x1 x2 = some J9 → WX12_oneDay G l σ (σ, I, J9, D, R) none (σ, I, J, D, R) 180 [(0, vR (some t)), (1, vI x1), (2, vI x2)] [] := by
  intro n
  induction n with
  | zero =>
    intro J x1 x2 h
    have h : none = some _ := h
    cases h
  | succ n ih =>
    intro J x1 x2 h
    rw [fX12_oneDay_l180] at h
    refine r_iload_n (pc := 180) dX12_oneDay_180 rfl 2 rfl ?_
    refine r_iconst (pc := 181) dX12_oneDay_181 kc_iconst_4 ?_
    refine r_icmp_ge (pc := 182) (tgt := 234) dX12_oneDay_182 rfl (fun c => ?_) (fun c => ?_)
    · have h := it h c
      cases h
      exact r_vret dX12_oneDay_234
    · have h := ie h c
      refine r_aload_n (pc := 185) dX12_oneDay_185 rfl 0 rfl ?_
      obtain ⟨g12, h⟩ := gd h
      obtain ⟨a13, ha13, h⟩ := ob h
      refine r_getS (pc := 186) dX12_oneDay_186 fgX12_275 rfl g12 ha13 ?_
      refine r_iconst (pc := 189) dX12_oneDay_189 kc_iconst_4 ?_
      refine r_iload_n (pc := 190) dX12_oneDay_190 rfl 1 rfl ?_
      refine r_imul (pc := 191) dX12_oneDay_191 ?_
      refine r_iload_n (pc := 192) dX12_oneDay_192 rfl 2 rfl ?_
      refine r_iadd (pc := 193) dX12_oneDay_193 ?_
      refine r_aload_n (pc := 194) dX12_oneDay_194 rfl 0 rfl ?_
      obtain ⟨a14, ha14, h⟩ := ob h
      refine r_getS (pc := 195) dX12_oneDay_195 fgX12_287 rfl g12 ha14 ?_
      refine r_iconst (pc := 198) dX12_oneDay_198 kc_iconst_4 ?_
      refine r_iload_n (pc := 199) dX12_oneDay_199 rfl 1 rfl ?_
      refine r_imul (pc := 200) dX12_oneDay_200 ?_
      refine r_iload_n (pc := 201) dX12_oneDay_201 rfl 2 rfl ?_
      refine r_iadd (pc := 202) dX12_oneDay_202 ?_
      obtain ⟨g15, h⟩ := gd h
      obtain ⟨g16, h⟩ := gd h
      refine r_laload (pc := 203) dX12_oneDay_203 g15 g16 ?_
      refine r_ldc2 (pc := 204) dX12_oneDay_204 clX12_669 ?_
      refine r_lcmp (pc := 207) dX12_oneDay_207 ?_
      refine r_if_le (pc := 208) (tgt := 217) dX12_oneDay_208 rfl (fun c => ?_) (fun c => ?_)
      · have h := it h (lgc_le.mp c)
        refine r_aload_n (pc := 217) dX12_oneDay_217 rfl 0 rfl ?_
        refine r_getS (pc := 218) dX12_oneDay_218 fgX12_287 rfl g12 ha14 ?_
        refine r_iconst (pc := 221) dX12_oneDay_221 kc_iconst_4 ?_
        refine r_iload_n (pc := 222) dX12_oneDay_222 rfl 1 rfl ?_
        refine r_imul (pc := 223) dX12_oneDay_223 ?_
        refine r_iload_n (pc := 224) dX12_oneDay_224 rfl 2 rfl ?_
        refine r_iadd (pc := 225) dX12_oneDay_225 ?_
        refine r_laload (pc := 226) dX12_oneDay_226 g15 g16 ?_
        obtain ⟨g17, h⟩ := gd h
        obtain ⟨g18, h⟩ := gd h
        refine r_lastore (pc := 227) dX12_oneDay_227 g17 g18 ?_
        refine r_iinc (pc := 228) (v := (x2 + (1 : Int32))) (L' := [(2, vI (x2 + (1 : Int32))), (0, vR (some t)), (1, vI x1)]) dX12_oneDay_228 2 rfl (kc_inc_1 _) (by decide) rfl ?_
        refine r_goto (pc := 231) (tgt := 180) dX12_oneDay_231 rfl ?_
        refine r_sub [1, 2, 0] rfl ?_
        exact ih _ _ _ h
      · have h := ie h (fun q => c (lgc_le.mpr q))
        refine r_ldc2 (pc := 211) dX12_oneDay_211 clX12_669 ?_
        refine r_goto (pc := 214) (tgt := 227) dX12_oneDay_214 rfl ?_
        obtain ⟨g21, h⟩ := gd h
        obtain ⟨g22, h⟩ := gd h
        refine r_lastore (pc := 227) dX12_oneDay_227 g21 g22 ?_
        refine r_iinc (pc := 228) (v := (x2 + (1 : Int32))) (L' := [(2, vI (x2 + (1 : Int32))), (0, vR (some t)), (1, vI x1)]) dX12_oneDay_228 2 rfl (kc_inc_1 _) (by decide) rfl ?_
        refine r_goto (pc := 231) (tgt := 180) dX12_oneDay_231 rfl ?_
        refine r_sub [1, 2, 0] rfl ?_
        exact ih _ _ _ h
def fX12_oneDay_l26  (σ : Shp) (I : Nat → Nat → Int32) (R : Nat → Nat → Option Nat) (t : Nat) : Nat → (Nat → Nat → Int64) → (Int32) → (Int32) → Option ((Nat → Nat → Int64))
  | 0, _, _, _ => none
  | n + 1, J, x1, x2 =>
    if (4 : Int32) ≤ x2 then
      if kdx σ t = 13 then
      ((R t 124) : Option Nat).bind fun a2 =>
      if kdx σ a2 = 21 then
      if ¬ (((4 : Int32) * x1) < 0 ∨ lnx σ a2 ≤ Int32.toNatClampNeg ((4 : Int32) * x1)) then
      ((R t 120) : Option Nat).bind fun a5 =>
      if kdx σ a5 = 21 then
      if ¬ ((((4 : Int32) * x1) + (3 : Int32)) < 0 ∨ lnx σ a5 ≤ Int32.toNatClampNeg (((4 : Int32) * x1) + (3 : Int32))) then
      ((R t 123) : Option Nat).bind fun a8 =>
      if kdx σ a8 = 20 then
      if ¬ ((((4 : Int32) * x1) + (3 : Int32)) < 0 ∨ lnx σ a8 ≤ Int32.toNatClampNeg (((4 : Int32) * x1) + (3 : Int32))) then
      let J11 := u2 J a2 (Int32.toNatClampNeg ((4 : Int32) * x1)) ((J a2 (Int32.toNatClampNeg ((4 : Int32) * x1))) + (((J a5 (Int32.toNatClampNeg (((4 : Int32) * x1) + (3 : Int32)))) * (Int32.toInt64 (I a8 (Int32.toNatClampNeg (((4 : Int32) * x1) + (3 : Int32)))))) / (100 : Int64)))
      fX12_oneDay_l180 σ I R t FUx J11 x1 (0 : Int32)
      else none
      else none
      else none
      else none
      else none
      else none
      else none
    else
      let v25 := (((4 : Int32) * x1) + x2)
      if kdx σ t = 13 then
      ((R t 108) : Option Nat).bind fun a27 =>
      ((R t 121) : Option Nat).bind fun a28 =>
      if kdx σ a28 = 20 then
      if ¬ (v25 < 0 ∨ lnx σ a28 ≤ Int32.toNatClampNeg v25) then
      if kdx σ a27 = 21 then
      if ¬ ((0 : Int32) < 0 ∨ lnx σ a27 ≤ Int32.toNatClampNeg (0 : Int32)) then
      let J33 := u2 J a27 (Int32.toNatClampNeg (0 : Int32)) (Int32.toInt64 (I a28 (Int32.toNatClampNeg v25)))
      ((R t 122) : Option Nat).bind fun a34 =>
      if kdx σ a34 = 20 then
      if ¬ (v25 < 0 ∨ lnx σ a34 ≤ Int32.toNatClampNeg v25) then
      if ¬ ((1 : Int32) < 0 ∨ lnx σ a27 ≤ Int32.toNatClampNeg (1 : Int32)) then
      let J38 := u2 J33 a27 (Int32.toNatClampNeg (1 : Int32)) (Int32.toInt64 (I a34 (Int32.toNatClampNeg v25)))
      if ¬ ((2 : Int32) < 0 ∨ lnx σ a27 ≤ Int32.toNatClampNeg (2 : Int32)) then
      let J40 := u2 J38 a27 (Int32.toNatClampNeg (2 : Int32)) (Int32.toInt64 (((2000 : Int32) - (I a28 (Int32.toNatClampNeg v25))) - (I a34 (Int32.toNatClampNeg v25))))
      ((R t 120) : Option Nat).bind fun a41 =>
      if kdx σ a41 = 21 then
      if ¬ (v25 < 0 ∨ lnx σ a41 ≤ Int32.toNatClampNeg v25) then
      (fX12_partWhole σ J40 R t (J40 a41 (Int32.toNatClampNeg v25)) (3 : Int32)).bind fun J44 =>
      ((R t 124) : Option Nat).bind fun a46 =>
      if kdx σ a46 = 21 then
      if ¬ (v25 < 0 ∨ lnx σ a46 ≤ Int32.toNatClampNeg v25) then
      ((R t 106) : Option Nat).bind fun a49 =>
      if kdx σ a49 = 21 then
      if ¬ ((1 : Int32) < 0 ∨ lnx σ a49 ≤ Int32.toNatClampNeg (1 : Int32)) then
      let J52 := u2 J44 a46 (Int32.toNatClampNeg v25) ((J44 a46 (Int32.toNatClampNeg v25)) + (J44 a49 (Int32.toNatClampNeg (1 : Int32))))
      if (3 : Int32) ≤ x2 then
        let v53 := x2 + (1 : Int32)
        fX12_oneDay_l26 σ I R t n J52 x1 v53
      else
        if ¬ ((v25 + (1 : Int32)) < 0 ∨ lnx σ a46 ≤ Int32.toNatClampNeg (v25 + (1 : Int32))) then
        if ¬ ((0 : Int32) < 0 ∨ lnx σ a49 ≤ Int32.toNatClampNeg (0 : Int32)) then
        let J56 := u2 J52 a46 (Int32.toNatClampNeg (v25 + (1 : Int32))) ((J52 a46 (Int32.toNatClampNeg (v25 + (1 : Int32)))) + (J52 a49 (Int32.toNatClampNeg (0 : Int32))))
        let v57 := x2 + (1 : Int32)
        fX12_oneDay_l26 σ I R t n J56 x1 v57
        else none
        else none
      else none
      else none
      else none
      else none
      else none
      else none
      else none
      else none
      else none
      else none
      else none
      else none
      else none
      else none
      else none
theorem wX12_oneDay_l26 {G : Gx} {l : Launch} {σ : Shp} {I : Nat → Nat → Int32} {D : Nat → Nat → UInt64} {R : Nat → Nat → Option Nat} {t : Nat} {J9 : Nat → Nat → Int64} : ∀ (n : Nat) (J : Nat → Nat → Int64) (x1 : Int32) (x2 : Int32), fX12_oneDay_l26 σ I R t n J x1 x2 = some J9 → WX12_oneDay G l σ (σ, I, J9, D, R) none (σ, I, J, D, R) 26 [(0, vR (some t)), (1, vI x1), (2, vI x2)] [] := by
  intro n
  induction n with
  | zero =>
    intro J x1 x2 h
    have h : none = some _ := h
    cases h
  | succ n ih =>
    intro J x1 x2 h
    rw [fX12_oneDay_l26] at h
    refine r_iload_n (pc := 26) dX12_oneDay_26 rfl 2 rfl ?_
    refine r_iconst (pc := 27) dX12_oneDay_27 kc_iconst_4 ?_
    refine r_icmp_ge (pc := 28) (tgt := 141) dX12_oneDay_28 rfl (fun c => ?_) (fun c => ?_)
    · have h := it h c
      refine r_aload_n (pc := 141) dX12_oneDay_141 rfl 0 rfl ?_
      obtain ⟨g1, h⟩ := gd h
      obtain ⟨a2, ha2, h⟩ := ob h
      refine r_getS (pc := 142) dX12_oneDay_142 fgX12_287 rfl g1 ha2 ?_
      refine r_iconst (pc := 145) dX12_oneDay_145 kc_iconst_4 ?_
      refine r_iload_n (pc := 146) dX12_oneDay_146 rfl 1 rfl ?_
      refine r_imul (pc := 147) dX12_oneDay_147 ?_
      refine r_dup2 (pc := 148) dX12_oneDay_148 rfl rfl ?_
      obtain ⟨g3, h⟩ := gd h
      obtain ⟨g4, h⟩ := gd h
      refine r_laload (pc := 149) dX12_oneDay_149 g3 g4 ?_
      refine r_aload_n (pc := 150) dX12_oneDay_150 rfl 0 rfl ?_
      obtain ⟨a5, ha5, h⟩ := ob h
      refine r_getS (pc := 151) dX12_oneDay_151 fgX12_275 rfl g1 ha5 ?_
      refine r_iconst (pc := 154) dX12_oneDay_154 kc_iconst_4 ?_
      refine r_iload_n (pc := 155) dX12_oneDay_155 rfl 1 rfl ?_
      refine r_imul (pc := 156) dX12_oneDay_156 ?_
      refine r_iconst (pc := 157) dX12_oneDay_157 kc_iconst_3 ?_
      refine r_iadd (pc := 158) dX12_oneDay_158 ?_
      obtain ⟨g6, h⟩ := gd h
      obtain ⟨g7, h⟩ := gd h
      refine r_laload (pc := 159) dX12_oneDay_159 g6 g7 ?_
      refine r_aload_n (pc := 160) dX12_oneDay_160 rfl 0 rfl ?_
      obtain ⟨a8, ha8, h⟩ := ob h
      refine r_getS (pc := 161) dX12_oneDay_161 fgX12_284 rfl g1 ha8 ?_
      refine r_iconst (pc := 164) dX12_oneDay_164 kc_iconst_4 ?_
      refine r_iload_n (pc := 165) dX12_oneDay_165 rfl 1 rfl ?_
      refine r_imul (pc := 166) dX12_oneDay_166 ?_
      refine r_iconst (pc := 167) dX12_oneDay_167 kc_iconst_3 ?_
      refine r_iadd (pc := 168) dX12_oneDay_168 ?_
      obtain ⟨g9, h⟩ := gd h
      obtain ⟨g10, h⟩ := gd h
      refine r_iaload (pc := 169) dX12_oneDay_169 g9 g10 ?_
      refine r_i2l (pc := 170) dX12_oneDay_170 ?_
      refine r_lmul (pc := 171) dX12_oneDay_171 ?_
      refine r_ldc2 (pc := 172) dX12_oneDay_172 clX12_767 ?_
      refine r_ldiv (pc := 175) dX12_oneDay_175 (by decide) ?_
      refine r_ladd (pc := 176) dX12_oneDay_176 ?_
      refine r_lastore (pc := 177) dX12_oneDay_177 g3 g4 ?_
      refine r_iconst (pc := 178) dX12_oneDay_178 kc_iconst_0 ?_
      refine r_istore_n (pc := 179) (L' := [(2, vI (0 : Int32)), (0, vR (some t)), (1, vI x1)]) dX12_oneDay_179 rfl (by decide) rfl ?_
      refine r_sub [1, 2, 0] rfl ?_
      exact wX12_oneDay_l180 _ _ _ _ h
    · have h := ie h c
      refine r_iconst (pc := 31) dX12_oneDay_31 kc_iconst_4 ?_
      refine r_iload_n (pc := 32) dX12_oneDay_32 rfl 1 rfl ?_
      refine r_imul (pc := 33) dX12_oneDay_33 ?_
      refine r_iload_n (pc := 34) dX12_oneDay_34 rfl 2 rfl ?_
      refine r_iadd (pc := 35) dX12_oneDay_35 ?_
      refine r_istore_n (pc := 36) (L' := [(3, vI (((4 : Int32) * x1) + x2)), (0, vR (some t)), (1, vI x1), (2, vI x2)]) dX12_oneDay_36 rfl (by decide) rfl ?_
      refine r_aload_n (pc := 37) dX12_oneDay_37 rfl 1 rfl ?_
      obtain ⟨g26, h⟩ := gd h
      obtain ⟨a27, ha27, h⟩ := ob h
      refine r_getS (pc := 38) dX12_oneDay_38 fgX12_247 rfl g26 ha27 ?_
      refine r_iconst (pc := 41) dX12_oneDay_41 kc_iconst_0 ?_
      refine r_aload_n (pc := 42) dX12_oneDay_42 rfl 1 rfl ?_
      obtain ⟨a28, ha28, h⟩ := ob h
      refine r_getS (pc := 43) dX12_oneDay_43 fgX12_278 rfl g26 ha28 ?_
      refine r_iload_n (pc := 46) dX12_oneDay_46 rfl 0 rfl ?_
      obtain ⟨g29, h⟩ := gd h
      obtain ⟨g30, h⟩ := gd h
      refine r_iaload (pc := 47) dX12_oneDay_47 g29 g30 ?_
      refine r_i2l (pc := 48) dX12_oneDay_48 ?_
      obtain ⟨g31, h⟩ := gd h
      obtain ⟨g32, h⟩ := gd h
      refine r_lastore (pc := 49) dX12_oneDay_49 g31 g32 ?_
      refine r_aload_n (pc := 50) dX12_oneDay_50 rfl 1 rfl ?_
      refine r_getS (pc := 51) dX12_oneDay_51 fgX12_247 rfl g26 ha27 ?_
      refine r_iconst (pc := 54) dX12_oneDay_54 kc_iconst_1 ?_
      refine r_aload_n (pc := 55) dX12_oneDay_55 rfl 1 rfl ?_
      obtain ⟨a34, ha34, h⟩ := ob h
      refine r_getS (pc := 56) dX12_oneDay_56 fgX12_281 rfl g26 ha34 ?_
      refine r_iload_n (pc := 59) dX12_oneDay_59 rfl 0 rfl ?_
      obtain ⟨g35, h⟩ := gd h
      obtain ⟨g36, h⟩ := gd h
      refine r_iaload (pc := 60) dX12_oneDay_60 g35 g36 ?_
      refine r_i2l (pc := 61) dX12_oneDay_61 ?_
      obtain ⟨g37, h⟩ := gd h
      refine r_lastore (pc := 62) dX12_oneDay_62 g31 g37 ?_
      refine r_aload_n (pc := 63) dX12_oneDay_63 rfl 1 rfl ?_
      refine r_getS (pc := 64) dX12_oneDay_64 fgX12_247 rfl g26 ha27 ?_
      refine r_iconst (pc := 67) dX12_oneDay_67 kc_iconst_2 ?_
      refine r_sipush (pc := 68) dX12_oneDay_68 kc_sipush_2000 ?_
      refine r_aload_n (pc := 71) dX12_oneDay_71 rfl 1 rfl ?_
      refine r_getS (pc := 72) dX12_oneDay_72 fgX12_278 rfl g26 ha28 ?_
      refine r_iload_n (pc := 75) dX12_oneDay_75 rfl 0 rfl ?_
      refine r_iaload (pc := 76) dX12_oneDay_76 g29 g30 ?_
      refine r_isub (pc := 77) dX12_oneDay_77 ?_
      refine r_aload_n (pc := 78) dX12_oneDay_78 rfl 1 rfl ?_
      refine r_getS (pc := 79) dX12_oneDay_79 fgX12_281 rfl g26 ha34 ?_
      refine r_iload_n (pc := 82) dX12_oneDay_82 rfl 0 rfl ?_
      refine r_iaload (pc := 83) dX12_oneDay_83 g35 g36 ?_
      refine r_isub (pc := 84) dX12_oneDay_84 ?_
      refine r_i2l (pc := 85) dX12_oneDay_85 ?_
      obtain ⟨g39, h⟩ := gd h
      refine r_lastore (pc := 86) dX12_oneDay_86 g31 g39 ?_
      refine r_aload_n (pc := 87) dX12_oneDay_87 rfl 1 rfl ?_
      refine r_aload_n (pc := 88) dX12_oneDay_88 rfl 1 rfl ?_
      obtain ⟨a41, ha41, h⟩ := ob h
      refine r_getS (pc := 89) dX12_oneDay_89 fgX12_275 rfl g26 ha41 ?_
      refine r_iload_n (pc := 92) dX12_oneDay_92 rfl 0 rfl ?_
      obtain ⟨g42, h⟩ := gd h
      obtain ⟨g43, h⟩ := gd h
      refine r_laload (pc := 93) dX12_oneDay_93 g42 g43 ?_
      refine r_iconst (pc := 94) dX12_oneDay_94 kc_iconst_3 ?_
      obtain ⟨J44, hc45, h⟩ := ob h
      refine r_callV0 (pc := 95) (av := [vL ((u2 (u2 (u2 J a27 (Int32.toNatClampNeg (0 : Int32)) (Int32.toInt64 (I a28 (Int32.toNatClampNeg (((4 : Int32) * x1) + x2))))) a27 (Int32.toNatClampNeg (1 : Int32)) (Int32.toInt64 (I a34 (Int32.toNatClampNeg (((4 : Int32) * x1) + x2))))) a27 (Int32.toNatClampNeg (2 : Int32)) (Int32.toInt64 (((2000 : Int32) - (I a28 (Int32.toNatClampNeg (((4 : Int32) * x1) + x2)))) - (I a34 (Int32.toNatClampNeg (((4 : Int32) * x1) + x2)))))) a41 (Int32.toNatClampNeg (((4 : Int32) * x1) + x2))), vI (3 : Int32)]) (S := []) dX12_oneDay_95 (kX12_partWhole hc45) g26 rfl mkX12_703 mwX12_partWhole rfl ⟨Nat.le_of_ble_eq_true rfl, Nat.le_of_ble_eq_true rfl⟩ (Nat.le_of_ble_eq_true rfl) ⟨Nat.le_refl _, Nat.le_refl _⟩ (fun b => b) ?_
      refine r_aload_n (pc := 98) dX12_oneDay_98 rfl 1 rfl ?_
      obtain ⟨a46, ha46, h⟩ := ob h
      refine r_getS (pc := 99) dX12_oneDay_99 fgX12_287 rfl g26 ha46 ?_
      refine r_iload_n (pc := 102) dX12_oneDay_102 rfl 0 rfl ?_
      refine r_dup2 (pc := 103) dX12_oneDay_103 rfl rfl ?_
      obtain ⟨g47, h⟩ := gd h
      obtain ⟨g48, h⟩ := gd h
      refine r_laload (pc := 104) dX12_oneDay_104 g47 g48 ?_
      refine r_aload_n (pc := 105) dX12_oneDay_105 rfl 1 rfl ?_
      obtain ⟨a49, ha49, h⟩ := ob h
      refine r_getS (pc := 106) dX12_oneDay_106 fgX12_241 rfl g26 ha49 ?_
      refine r_iconst (pc := 109) dX12_oneDay_109 kc_iconst_1 ?_
      obtain ⟨g50, h⟩ := gd h
      obtain ⟨g51, h⟩ := gd h
      refine r_laload (pc := 110) dX12_oneDay_110 g50 g51 ?_
      refine r_ladd (pc := 111) dX12_oneDay_111 ?_
      refine r_lastore (pc := 112) dX12_oneDay_112 g47 g48 ?_
      refine r_iload_n (pc := 113) dX12_oneDay_113 rfl 3 rfl ?_
      refine r_iconst (pc := 114) dX12_oneDay_114 kc_iconst_3 ?_
      refine r_icmp_ge (pc := 115) (tgt := 135) dX12_oneDay_115 rfl (fun c => ?_) (fun c => ?_)
      · have h := it h c
        refine r_iinc (pc := 135) (v := (x2 + (1 : Int32))) (L' := [(2, vI (x2 + (1 : Int32))), (3, vI (((4 : Int32) * x1) + x2)), (0, vR (some t)), (1, vI x1)]) dX12_oneDay_135 3 rfl (kc_inc_1 _) (by decide) rfl ?_
        refine r_goto (pc := 138) (tgt := 26) dX12_oneDay_138 rfl ?_
        refine r_sub [2, 3, 0] rfl ?_
        exact ih _ _ _ h
      · have h := ie h c
        refine r_aload_n (pc := 118) dX12_oneDay_118 rfl 1 rfl ?_
        refine r_getS (pc := 119) dX12_oneDay_119 fgX12_287 rfl g26 ha46 ?_
        refine r_iload_n (pc := 122) dX12_oneDay_122 rfl 0 rfl ?_
        refine r_iconst (pc := 123) dX12_oneDay_123 kc_iconst_1 ?_
        refine r_iadd (pc := 124) dX12_oneDay_124 ?_
        refine r_dup2 (pc := 125) dX12_oneDay_125 rfl rfl ?_
        obtain ⟨g54, h⟩ := gd h
        refine r_laload (pc := 126) dX12_oneDay_126 g47 g54 ?_
        refine r_aload_n (pc := 127) dX12_oneDay_127 rfl 1 rfl ?_
        refine r_getS (pc := 128) dX12_oneDay_128 fgX12_241 rfl g26 ha49 ?_
        refine r_iconst (pc := 131) dX12_oneDay_131 kc_iconst_0 ?_
        obtain ⟨g55, h⟩ := gd h
        refine r_laload (pc := 132) dX12_oneDay_132 g50 g55 ?_
        refine r_ladd (pc := 133) dX12_oneDay_133 ?_
        refine r_lastore (pc := 134) dX12_oneDay_134 g47 g54 ?_
        refine r_iinc (pc := 135) (v := (x2 + (1 : Int32))) (L' := [(2, vI (x2 + (1 : Int32))), (3, vI (((4 : Int32) * x1) + x2)), (0, vR (some t)), (1, vI x1)]) dX12_oneDay_135 3 rfl (kc_inc_1 _) (by decide) rfl ?_
        refine r_goto (pc := 138) (tgt := 26) dX12_oneDay_138 rfl ?_
        refine r_sub [2, 3, 0] rfl ?_
        exact ih _ _ _ h
def fX12_oneDay_l2  (σ : Shp) (I : Nat → Nat → Int32) (R : Nat → Nat → Option Nat) (t : Nat) : Nat → (Nat → Nat → Int64) → (Int32) → (Int32) → Option ((Nat → Nat → Int64))
  | 0, _, _, _ => none
  | n + 1, J, x1, x2 =>
    if (4 : Int32) ≤ x2 then
      fX12_oneDay_l26 σ I R t FUx J x1 (0 : Int32)
    else
      if kdx σ t = 13 then
      ((R t 124) : Option Nat).bind fun a59 =>
      if kdx σ a59 = 21 then
      if ¬ ((((4 : Int32) * x1) + x2) < 0 ∨ lnx σ a59 ≤ Int32.toNatClampNeg (((4 : Int32) * x1) + x2)) then
      let J62 := u2 J a59 (Int32.toNatClampNeg (((4 : Int32) * x1) + x2)) (0 : Int64)
      let v63 := x2 + (1 : Int32)
      fX12_oneDay_l2 σ I R t n J62 x1 v63
      else none
      else none
      else none
theorem wX12_oneDay_l2 {G : Gx} {l : Launch} {σ : Shp} {I : Nat → Nat → Int32} {D : Nat → Nat → UInt64} {R : Nat → Nat → Option Nat} {t : Nat} {J9 : Nat → Nat → Int64} : ∀ (n : Nat) (J : Nat → Nat → Int64) (x1 : Int32) (x2 : Int32), fX12_oneDay_l2 σ I R t n J x1 x2 = some J9 → WX12_oneDay G l σ (σ, I, J9, D, R) none (σ, I, J, D, R) 2 [(0, vR (some t)), (1, vI x1), (2, vI x2)] [] := by
  intro n
  induction n with
  | zero =>
    intro J x1 x2 h
    have h : none = some _ := h
    cases h
  | succ n ih =>
    intro J x1 x2 h
    rw [fX12_oneDay_l2] at h
    refine r_iload_n (pc := 2) dX12_oneDay_2 rfl 2 rfl ?_
    refine r_iconst (pc := 3) dX12_oneDay_3 kc_iconst_4 ?_
    refine r_icmp_ge (pc := 4) (tgt := 24) dX12_oneDay_4 rfl (fun c => ?_) (fun c => ?_)
    · have h := it h c
      refine r_iconst (pc := 24) dX12_oneDay_24 kc_iconst_0 ?_
      refine r_istore_n (pc := 25) (L' := [(2, vI (0 : Int32)), (0, vR (some t)), (1, vI x1)]) dX12_oneDay_25 rfl (by decide) rfl ?_
      refine r_sub [1, 2, 0] rfl ?_
      exact wX12_oneDay_l26 _ _ _ _ h
    · have h := ie h c
      refine r_aload_n (pc := 7) dX12_oneDay_7 rfl 0 rfl ?_
      obtain ⟨g58, h⟩ := gd h
      obtain ⟨a59, ha59, h⟩ := ob h
      refine r_getS (pc := 8) dX12_oneDay_8 fgX12_287 rfl g58 ha59 ?_
      refine r_iconst (pc := 11) dX12_oneDay_11 kc_iconst_4 ?_
      refine r_iload_n (pc := 12) dX12_oneDay_12 rfl 1 rfl ?_
      refine r_imul (pc := 13) dX12_oneDay_13 ?_
      refine r_iload_n (pc := 14) dX12_oneDay_14 rfl 2 rfl ?_
      refine r_iadd (pc := 15) dX12_oneDay_15 ?_
      refine r_lconst (pc := 16) dX12_oneDay_16 kc_lconst_0 ?_
      obtain ⟨g60, h⟩ := gd h
      obtain ⟨g61, h⟩ := gd h
      refine r_lastore (pc := 17) dX12_oneDay_17 g60 g61 ?_
      refine r_iinc (pc := 18) (v := (x2 + (1 : Int32))) (L' := [(2, vI (x2 + (1 : Int32))), (0, vR (some t)), (1, vI x1)]) dX12_oneDay_18 2 rfl (kc_inc_1 _) (by decide) rfl ?_
      refine r_goto (pc := 21) (tgt := 2) dX12_oneDay_21 rfl ?_
      refine r_sub [1, 2, 0] rfl ?_
      exact ih _ _ _ h
def fX12_oneDay (σ : Shp) (I : Nat → Nat → Int32) (J : Nat → Nat → Int64) (R : Nat → Nat → Option Nat) (t : Nat) (x1 : Int32) : Option ((Nat → Nat → Int64)) :=
  fX12_oneDay_l2 σ I R t FUx J x1 (0 : Int32)
theorem kX12_oneDay {G : Gx} {l : Launch} {σ : Shp} {I : Nat → Nat → Int32} {J : Nat → Nat → Int64} {D : Nat → Nat → UInt64} {R : Nat → Nat → Option Nat} {t : Nat} {x1 : Int32} {J9 : Nat → Nat → Int64} (h : fX12_oneDay σ I J R t x1 = some J9) : Con G l yX12_oneDay cX12_oneDay 4 none 1 29 [vR (some t), vI x1] (σ, I, J, D, R) (σ, I, J9, D, R) none := by
  unfold fX12_oneDay at h
  refine Con.mk (by decide +kernel) rfl (Nat.le_of_ble_eq_true rfl) ?_
  show WX12_oneDay G l σ (σ, I, J9, D, R) none (σ, I, J, D, R) 0 _ []
  refine r_iconst (pc := 0) dX12_oneDay_0 kc_iconst_0 ?_
  refine r_istore_n (pc := 1) (L' := [(2, vI (0 : Int32)), (0, vR (some t)), (1, vI x1)]) dX12_oneDay_1 rfl (by decide) rfl ?_
  refine r_sub [1, 2, 0] rfl ?_
  exact wX12_oneDay_l2 _ _ _ _ h
abbrev WX12_day (G : Gx) (l : Launch) (σ0 : Shp) (X1 : Stt) (rv : Option SV) : Stt → Nat → List (Nat × SV) → List SV → Prop := Wm G l yX12_day cX12_day 3 (some .int) (fun _ => True) (rmx 2 52 σ0 X1.1) σ0 (Qmx G σ0 X1 rv)
def fX12_day_l30  (σ : Shp) (R : Nat → Nat → Option Nat) (t : Nat) : Nat → (Nat → Nat → Int32) → (Nat → Nat → Int64) → (Int32) → (Int32) → Option ((Nat → Nat → Int32) × (Nat → Nat → Int64) × (Int32))
  | 0, _, _, _, _ => none
  | n + 1, I, J, x1, x2 =>
    if x1 ≤ x2 then
      if kdx σ t = 13 then
      some (I, J, (I t 125))
      else none
    else
      if kdx σ t = 13 then
      (fX12_oneDay σ I J R t (0 : Int32)).bind fun J4 =>
      (fX12_oneDay σ I J4 R t (1 : Int32)).bind fun J6 =>
      let I8 := u2 I t 125 ((I t 125) + (1 : Int32))
      if (I8 t 126) ≤ 0 then
        let I9 := u2 I8 t 126 ((I8 t 126) - (0 : Int32))
        let v10 := x2 + (1 : Int32)
        fX12_day_l30 σ R t n I9 J6 x1 v10
      else
        let I11 := u2 I8 t 126 ((I8 t 126) - (1 : Int32))
        let v12 := x2 + (1 : Int32)
        fX12_day_l30 σ R t n I11 J6 x1 v12
      else none
theorem wX12_day_l30 {G : Gx} {l : Launch} {σ : Shp} {D : Nat → Nat → UInt64} {R : Nat → Nat → Option Nat} {t : Nat} {I9 : Nat → Nat → Int32} {J9 : Nat → Nat → Int64} {r9 : Int32} : ∀ (n : Nat) (I : Nat → Nat → Int32) (J : Nat → Nat → Int64) (x1 : Int32) (x2 : Int32), fX12_day_l30 σ R t n I J x1 x2 = some (I9, J9, r9) → WX12_day G l σ (σ, I9, J9, D, R) (some (vI r9)) (σ, I, J, D, R) 30 [(0, vR (some t)), (1, vI x1), (2, vI x2)] [] := by
  intro n
  induction n with
  | zero =>
    intro I J x1 x2 h
    have h : none = some _ := h
    cases h
  | succ n ih =>
    intro I J x1 x2 h
    rw [fX12_day_l30] at h
    refine r_iload_n (pc := 30) dX12_day_30 rfl 2 rfl ?_
    refine r_iload_n (pc := 31) dX12_day_31 rfl 1 rfl ?_
    refine r_icmp_ge (pc := 32) (tgt := 82) dX12_day_32 rfl (fun c => ?_) (fun c => ?_)
    · have h := it h c
      refine r_aload_n (pc := 82) dX12_day_82 rfl 0 rfl ?_
      obtain ⟨g2, h⟩ := gd h
      refine r_getI (pc := 83) dX12_day_83 fgX12_769 rfl g2 ?_
      cases h
      exact r_iret dX12_day_86
    · have h := ie h c
      refine r_aload_n (pc := 35) dX12_day_35 rfl 0 rfl ?_
      refine r_iconst (pc := 36) dX12_day_36 kc_iconst_0 ?_
      obtain ⟨g3, h⟩ := gd h
      obtain ⟨J4, hc5, h⟩ := ob h
      refine r_callV0 (pc := 37) (av := [vI (0 : Int32)]) (S := []) dX12_day_37 (kX12_oneDay hc5) g3 rfl mkX12_772 mwX12_oneDay rfl ⟨Nat.le_of_ble_eq_true rfl, Nat.le_of_ble_eq_true rfl⟩ (Nat.le_of_ble_eq_true rfl) ⟨Nat.le_refl _, Nat.le_refl _⟩ (fun b => b) ?_
      refine r_aload_n (pc := 40) dX12_day_40 rfl 0 rfl ?_
      refine r_iconst (pc := 41) dX12_day_41 kc_iconst_1 ?_
      obtain ⟨J6, hc7, h⟩ := ob h
      refine r_callV0 (pc := 42) (av := [vI (1 : Int32)]) (S := []) dX12_day_42 (kX12_oneDay hc7) g3 rfl mkX12_772 mwX12_oneDay rfl ⟨Nat.le_of_ble_eq_true rfl, Nat.le_of_ble_eq_true rfl⟩ (Nat.le_of_ble_eq_true rfl) ⟨Nat.le_refl _, Nat.le_refl _⟩ (fun b => b) ?_
      refine r_aload_n (pc := 45) dX12_day_45 rfl 0 rfl ?_
      refine r_dup (pc := 46) dX12_day_46 rfl ?_
      refine r_getI (pc := 47) dX12_day_47 fgX12_769 rfl g3 ?_
      refine r_iconst (pc := 50) dX12_day_50 kc_iconst_1 ?_
      refine r_iadd (pc := 51) dX12_day_51 ?_
      refine r_putI (pc := 52) dX12_day_52 fwX12_769 rfl g3 ?_
      refine r_aload_n (pc := 55) dX12_day_55 rfl 0 rfl ?_
      refine r_dup (pc := 56) dX12_day_56 rfl ?_
      refine r_getI (pc := 57) dX12_day_57 fgX12_775 rfl g3 ?_
      refine r_aload_n (pc := 60) dX12_day_60 rfl 0 rfl ?_
      refine r_getI (pc := 61) dX12_day_61 fgX12_775 rfl g3 ?_
      refine r_if_le (pc := 64) (tgt := 71) dX12_day_64 rfl (fun c => ?_) (fun c => ?_)
      · have h := it h c
        refine r_iconst (pc := 71) dX12_day_71 kc_iconst_0 ?_
        refine r_isub (pc := 72) dX12_day_72 ?_
        refine r_putI (pc := 73) dX12_day_73 fwX12_775 rfl g3 ?_
        refine r_iinc (pc := 76) (v := (x2 + (1 : Int32))) (L' := [(2, vI (x2 + (1 : Int32))), (0, vR (some t)), (1, vI x1)]) dX12_day_76 2 rfl (kc_inc_1 _) (by decide) rfl ?_
        refine r_goto (pc := 79) (tgt := 30) dX12_day_79 rfl ?_
        refine r_sub [1, 2, 0] rfl ?_
        exact ih _ _ _ _ h
      · have h := ie h c
        refine r_iconst (pc := 67) dX12_day_67 kc_iconst_1 ?_
        refine r_goto (pc := 68) (tgt := 72) dX12_day_68 rfl ?_
        refine r_isub (pc := 72) dX12_day_72 ?_
        refine r_putI (pc := 73) dX12_day_73 fwX12_775 rfl g3 ?_
        refine r_iinc (pc := 76) (v := (x2 + (1 : Int32))) (L' := [(2, vI (x2 + (1 : Int32))), (0, vR (some t)), (1, vI x1)]) dX12_day_76 2 rfl (kc_inc_1 _) (by decide) rfl ?_
        refine r_goto (pc := 79) (tgt := 30) dX12_day_79 rfl ?_
        refine r_sub [1, 2, 0] rfl ?_
        exact ih _ _ _ _ h
def fX12_day (σ : Shp) (I : Nat → Nat → Int32) (J : Nat → Nat → Int64) (R : Nat → Nat → Option Nat) (t : Nat) (x1 : Int32) : Option ((Nat → Nat → Int32) × (Nat → Nat → Int64) × (Int32)) :=
  if (fX12_in x1 (1 : Int32) (50 : Int32)) = 0 then
    some (I, J, (-2 : Int32))
  else
    if kdx σ t = 13 then
    if ((I t 125) + x1) ≤ (10000 : Int32) then
      fX12_day_l30 σ R t FUx I J x1 (0 : Int32)
    else
      some (I, J, (-4 : Int32))
    else none
theorem kX12_day {G : Gx} {l : Launch} {σ : Shp} {I : Nat → Nat → Int32} {J : Nat → Nat → Int64} {D : Nat → Nat → UInt64} {R : Nat → Nat → Option Nat} {t : Nat} {x1 : Int32} {I9 : Nat → Nat → Int32} {J9 : Nat → Nat → Int64} {r9 : Int32} (h : fX12_day σ I J R t x1 = some (I9, J9, r9)) : Con G l yX12_day cX12_day 3 (some .int) 2 52 [vR (some t), vI x1] (σ, I, J, D, R) (σ, I9, J9, D, R) (some (vI r9)) := by
  unfold fX12_day at h
  refine Con.mk (by decide +kernel) rfl (Nat.le_of_ble_eq_true rfl) ?_
  show WX12_day G l σ (σ, I9, J9, D, R) (some (vI r9)) (σ, I, J, D, R) 0 _ []
  refine r_iload_n (pc := 0) dX12_day_0 rfl 1 rfl ?_
  refine r_iconst (pc := 1) dX12_day_1 kc_iconst_1 ?_
  refine r_bipush (pc := 2) dX12_day_2 kc_bipush_50 ?_
  refine r_callS1 (pc := 4) (av := [vI x1, vI (1 : Int32), vI (50 : Int32)]) (S := []) dX12_day_4 (kX12_in rfl) mkX12_322 mwX12_in rfl ⟨Nat.le_of_ble_eq_true rfl, Nat.le_of_ble_eq_true rfl⟩ (Nat.le_of_ble_eq_true rfl) ⟨Nat.le_refl _, Nat.le_refl _⟩ (fun b => b) ?_
  refine r_ifne (pc := 7) (tgt := 13) dX12_day_7 rfl (fun c => ?_) (fun c => ?_)
  · have h := ie h c
    refine r_aload_n (pc := 13) dX12_day_13 rfl 0 rfl ?_
    obtain ⟨g1, h⟩ := gd h
    refine r_getI (pc := 14) dX12_day_14 fgX12_769 rfl g1 ?_
    refine r_iload_n (pc := 17) dX12_day_17 rfl 1 rfl ?_
    refine r_iadd (pc := 18) dX12_day_18 ?_
    refine r_sipush (pc := 19) dX12_day_19 kc_sipush_10000 ?_
    refine r_icmp_le (pc := 22) (tgt := 28) dX12_day_22 rfl (fun c => ?_) (fun c => ?_)
    · have h := it h c
      refine r_iconst (pc := 28) dX12_day_28 kc_iconst_0 ?_
      refine r_istore_n (pc := 29) (L' := [(2, vI (0 : Int32)), (0, vR (some t)), (1, vI x1)]) dX12_day_29 rfl (by decide) rfl ?_
      refine r_sub [1, 2, 0] rfl ?_
      exact wX12_day_l30 _ _ _ _ _ h
    · have h := ie h c
      refine r_bipush (pc := 25) dX12_day_25 kc_bipush_m4 ?_
      cases h
      exact r_iret dX12_day_27
  · have h := it h c
    refine r_bipush (pc := 10) dX12_day_10 kc_bipush_m2 ?_
    cases h
    exact r_iret dX12_day_12
abbrev WX12_spray (G : Gx) (l : Launch) (σ0 : Shp) (X1 : Stt) (rv : Option SV) : Stt → Nat → List (Nat × SV) → List SV → Prop := Wm G l yX12_spray cX12_spray 3 (some .int) (fun _ => True) (rmx 1 22 σ0 X1.1) σ0 (Qmx G σ0 X1 rv)
def fX12_spray_l14  (σ : Shp) (R : Nat → Nat → Option Nat) (t : Nat) : Nat → (Nat → Nat → Int32) → (Nat → Nat → Int64) → (Int32) → (Int32) → Option ((Nat → Nat → Int32) × (Nat → Nat → Int64) × (Int32))
  | 0, _, _, _, _ => none
  | n + 1, I, J, x1, x2 =>
    if (4 : Int32) ≤ x2 then
      if kdx σ t = 13 then
      let I2 := u2 I t 126 (7 : Int32)
      some (I2, J, (1 : Int32))
      else none
    else
      if kdx σ t = 13 then
      ((R t 120) : Option Nat).bind fun a4 =>
      if kdx σ a4 = 21 then
      if ¬ ((((4 : Int32) * x1) + x2) < 0 ∨ lnx σ a4 ≤ Int32.toNatClampNeg (((4 : Int32) * x1) + x2)) then
      let J7 := u2 J a4 (Int32.toNatClampNeg (((4 : Int32) * x1) + x2)) ((J a4 (Int32.toNatClampNeg (((4 : Int32) * x1) + x2))) / (4 : Int64))
      let v8 := x2 + (1 : Int32)
      fX12_spray_l14 σ R t n I J7 x1 v8
      else none
      else none
      else none
theorem wX12_spray_l14 {G : Gx} {l : Launch} {σ : Shp} {D : Nat → Nat → UInt64} {R : Nat → Nat → Option Nat} {t : Nat} {I9 : Nat → Nat → Int32} {J9 : Nat → Nat → Int64} {r9 : Int32} : ∀ (n : Nat) (I : Nat → Nat → Int32) (J : Nat → Nat → Int64) (x1 : Int32) (x2 : Int32), fX12_spray_l14 σ R t n I J x1 x2 = some (I9, J9, r9) → WX12_spray G l σ (σ, I9, J9, D, R) (some (vI r9)) (σ, I, J, D, R) 14 [(0, vR (some t)), (1, vI x1), (2, vI x2)] [] := by
  intro n
  induction n with
  | zero =>
    intro I J x1 x2 h
    have h : none = some _ := h
    cases h
  | succ n ih =>
    intro I J x1 x2 h
    rw [fX12_spray_l14] at h
    refine r_iload_n (pc := 14) dX12_spray_14 rfl 2 rfl ?_
    refine r_iconst (pc := 15) dX12_spray_15 kc_iconst_4 ?_
    refine r_icmp_ge (pc := 16) (tgt := 49) dX12_spray_16 rfl (fun c => ?_) (fun c => ?_)
    · have h := it h c
      refine r_aload_n (pc := 49) dX12_spray_49 rfl 0 rfl ?_
      refine r_bipush (pc := 50) dX12_spray_50 kc_bipush_7 ?_
      obtain ⟨g1, h⟩ := gd h
      refine r_putI (pc := 52) dX12_spray_52 fwX12_775 rfl g1 ?_
      refine r_iconst (pc := 55) dX12_spray_55 kc_iconst_1 ?_
      cases h
      exact r_iret dX12_spray_56
    · have h := ie h c
      refine r_aload_n (pc := 19) dX12_spray_19 rfl 0 rfl ?_
      obtain ⟨g3, h⟩ := gd h
      obtain ⟨a4, ha4, h⟩ := ob h
      refine r_getS (pc := 20) dX12_spray_20 fgX12_275 rfl g3 ha4 ?_
      refine r_iconst (pc := 23) dX12_spray_23 kc_iconst_4 ?_
      refine r_iload_n (pc := 24) dX12_spray_24 rfl 1 rfl ?_
      refine r_imul (pc := 25) dX12_spray_25 ?_
      refine r_iload_n (pc := 26) dX12_spray_26 rfl 2 rfl ?_
      refine r_iadd (pc := 27) dX12_spray_27 ?_
      refine r_aload_n (pc := 28) dX12_spray_28 rfl 0 rfl ?_
      refine r_getS (pc := 29) dX12_spray_29 fgX12_275 rfl g3 ha4 ?_
      refine r_iconst (pc := 32) dX12_spray_32 kc_iconst_4 ?_
      refine r_iload_n (pc := 33) dX12_spray_33 rfl 1 rfl ?_
      refine r_imul (pc := 34) dX12_spray_34 ?_
      refine r_iload_n (pc := 35) dX12_spray_35 rfl 2 rfl ?_
      refine r_iadd (pc := 36) dX12_spray_36 ?_
      obtain ⟨g5, h⟩ := gd h
      obtain ⟨g6, h⟩ := gd h
      refine r_laload (pc := 37) dX12_spray_37 g5 g6 ?_
      refine r_ldc2 (pc := 38) dX12_spray_38 clX12_778 ?_
      refine r_ldiv (pc := 41) dX12_spray_41 (by decide) ?_
      refine r_lastore (pc := 42) dX12_spray_42 g5 g6 ?_
      refine r_iinc (pc := 43) (v := (x2 + (1 : Int32))) (L' := [(2, vI (x2 + (1 : Int32))), (0, vR (some t)), (1, vI x1)]) dX12_spray_43 2 rfl (kc_inc_1 _) (by decide) rfl ?_
      refine r_goto (pc := 46) (tgt := 14) dX12_spray_46 rfl ?_
      refine r_sub [1, 2, 0] rfl ?_
      exact ih _ _ _ _ h
def fX12_spray (σ : Shp) (I : Nat → Nat → Int32) (J : Nat → Nat → Int64) (R : Nat → Nat → Option Nat) (t : Nat) (x1 : Int32) : Option ((Nat → Nat → Int32) × (Nat → Nat → Int64) × (Int32)) :=
  if (fX12_in x1 (0 : Int32) (1 : Int32)) = 0 then
    some (I, J, (-2 : Int32))
  else
    fX12_spray_l14 σ R t FUx I J x1 (0 : Int32)
theorem kX12_spray {G : Gx} {l : Launch} {σ : Shp} {I : Nat → Nat → Int32} {J : Nat → Nat → Int64} {D : Nat → Nat → UInt64} {R : Nat → Nat → Option Nat} {t : Nat} {x1 : Int32} {I9 : Nat → Nat → Int32} {J9 : Nat → Nat → Int64} {r9 : Int32} (h : fX12_spray σ I J R t x1 = some (I9, J9, r9)) : Con G l yX12_spray cX12_spray 3 (some .int) 1 22 [vR (some t), vI x1] (σ, I, J, D, R) (σ, I9, J9, D, R) (some (vI r9)) := by
  unfold fX12_spray at h
  refine Con.mk (by decide +kernel) rfl (Nat.le_of_ble_eq_true rfl) ?_
  show WX12_spray G l σ (σ, I9, J9, D, R) (some (vI r9)) (σ, I, J, D, R) 0 _ []
  refine r_iload_n (pc := 0) dX12_spray_0 rfl 1 rfl ?_
  refine r_iconst (pc := 1) dX12_spray_1 kc_iconst_0 ?_
  refine r_iconst (pc := 2) dX12_spray_2 kc_iconst_1 ?_
  refine r_callS1 (pc := 3) (av := [vI x1, vI (0 : Int32), vI (1 : Int32)]) (S := []) dX12_spray_3 (kX12_in rfl) mkX12_322 mwX12_in rfl ⟨Nat.le_of_ble_eq_true rfl, Nat.le_of_ble_eq_true rfl⟩ (Nat.le_of_ble_eq_true rfl) ⟨Nat.le_refl _, Nat.le_refl _⟩ (fun b => b) ?_
  refine r_ifne (pc := 6) (tgt := 12) dX12_spray_6 rfl (fun c => ?_) (fun c => ?_)
  · have h := ie h c
    refine r_iconst (pc := 12) dX12_spray_12 kc_iconst_0 ?_
    refine r_istore_n (pc := 13) (L' := [(2, vI (0 : Int32)), (0, vR (some t)), (1, vI x1)]) dX12_spray_13 rfl (by decide) rfl ?_
    refine r_sub [1, 2, 0] rfl ?_
    exact wX12_spray_l14 _ _ _ _ _ h
  · have h := it h c
    refine r_bipush (pc := 9) dX12_spray_9 kc_bipush_m2 ?_
    cases h
    exact r_iret dX12_spray_11
abbrev WX12_pest (G : Gx) (l : Launch) (σ0 : Shp) (X1 : Stt) (rv : Option SV) : Stt → Nat → List (Nat × SV) → List SV → Prop := Wm G l yX12_pest cX12_pest 3 (some .int) (fun _ => True) (rmx 2 43 σ0 X1.1) σ0 (Qmx G σ0 X1 rv)
def fX12_pest (σ : Shp) (J : Nat → Nat → Int64) (R : Nat → Nat → Option Nat) (t : Nat) (x1 : Int32) (x2 : Int32) : Option ((Int32)) :=
  if (fX12_isStage x1 x2) = 0 then
    some (-2 : Int32)
  else
    if kdx σ t = 13 then
    ((R t 120) : Option Nat).bind fun a2 =>
    if kdx σ a2 = 21 then
    if ¬ ((((4 : Int32) * x1) + x2) < 0 ∨ lnx σ a2 ≤ Int32.toNatClampNeg (((4 : Int32) * x1) + x2)) then
    some (Int64.toInt32 (J a2 (Int32.toNatClampNeg (((4 : Int32) * x1) + x2))))
    else none
    else none
    else none
theorem kX12_pest {G : Gx} {l : Launch} {σ : Shp} {I : Nat → Nat → Int32} {J : Nat → Nat → Int64} {D : Nat → Nat → UInt64} {R : Nat → Nat → Option Nat} {t : Nat} {x1 : Int32} {x2 : Int32} {r9 : Int32} (h : fX12_pest σ J R t x1 x2 = some r9) : Con G l yX12_pest cX12_pest 3 (some .int) 2 43 [vR (some t), vI x1, vI x2] (σ, I, J, D, R) (σ, I, J, D, R) (some (vI r9)) := by
  unfold fX12_pest at h
  refine Con.mk (by decide +kernel) rfl (Nat.le_of_ble_eq_true rfl) ?_
  show WX12_pest G l σ (σ, I, J, D, R) (some (vI r9)) (σ, I, J, D, R) 0 _ []
  refine r_iload_n (pc := 0) dX12_pest_0 rfl 1 rfl ?_
  refine r_iload_n (pc := 1) dX12_pest_1 rfl 2 rfl ?_
  refine r_callS1 (pc := 2) (av := [vI x1, vI x2]) (S := []) dX12_pest_2 (kX12_isStage rfl) mkX12_764 mwX12_isStage rfl ⟨Nat.le_of_ble_eq_true rfl, Nat.le_of_ble_eq_true rfl⟩ (Nat.le_of_ble_eq_true rfl) ⟨Nat.le_refl _, Nat.le_refl _⟩ (fun b => b) ?_
  refine r_if_eq (pc := 5) (tgt := 22) dX12_pest_5 rfl (fun c => ?_) (fun c => ?_)
  · have h := it h c
    refine r_bipush (pc := 22) dX12_pest_22 kc_bipush_m2 ?_
    cases h
    exact r_iret dX12_pest_24
  · have h := ie h c
    refine r_aload_n (pc := 8) dX12_pest_8 rfl 0 rfl ?_
    obtain ⟨g1, h⟩ := gd h
    obtain ⟨a2, ha2, h⟩ := ob h
    refine r_getS (pc := 9) dX12_pest_9 fgX12_275 rfl g1 ha2 ?_
    refine r_iconst (pc := 12) dX12_pest_12 kc_iconst_4 ?_
    refine r_iload_n (pc := 13) dX12_pest_13 rfl 1 rfl ?_
    refine r_imul (pc := 14) dX12_pest_14 ?_
    refine r_iload_n (pc := 15) dX12_pest_15 rfl 2 rfl ?_
    refine r_iadd (pc := 16) dX12_pest_16 ?_
    obtain ⟨g3, h⟩ := gd h
    obtain ⟨g4, h⟩ := gd h
    refine r_laload (pc := 17) dX12_pest_17 g3 g4 ?_
    refine r_l2i (pc := 18) dX12_pest_18 ?_
    refine r_goto (pc := 19) (tgt := 24) dX12_pest_19 rfl ?_
    cases h
    exact r_iret dX12_pest_24
abbrev WX12_wait1 (G : Gx) (l : Launch) (σ0 : Shp) (X1 : Stt) (rv : Option SV) : Stt → Nat → List (Nat × SV) → List SV → Prop := Wm G l yX12_wait1 cX12_wait1 1 (some .int) (fun _ => True) (rmx 0 0 σ0 X1.1) σ0 (Qmx G σ0 X1 rv)
def fX12_wait1 (σ : Shp) (I : Nat → Nat → Int32) (t : Nat)  : Option ((Int32)) :=
  if kdx σ t = 13 then
  some (I t 126)
  else none
theorem kX12_wait1 {G : Gx} {l : Launch} {σ : Shp} {I : Nat → Nat → Int32} {J : Nat → Nat → Int64} {D : Nat → Nat → UInt64} {R : Nat → Nat → Option Nat} {t : Nat}  {r9 : Int32} (h : fX12_wait1 σ I t = some r9) : Con G l yX12_wait1 cX12_wait1 1 (some .int) 0 0 [vR (some t)] (σ, I, J, D, R) (σ, I, J, D, R) (some (vI r9)) := by
  unfold fX12_wait1 at h
  refine Con.mk (by decide +kernel) rfl (Nat.le_of_ble_eq_true rfl) ?_
  show WX12_wait1 G l σ (σ, I, J, D, R) (some (vI r9)) (σ, I, J, D, R) 0 _ []
  refine r_aload_n (pc := 0) dX12_wait1_0 rfl 0 rfl ?_
  obtain ⟨g1, h⟩ := gd h
  refine r_getI (pc := 1) dX12_wait1_1 fgX12_775 rfl g1 ?_
  cases h
  exact r_iret dX12_wait1_4
abbrev WX12_sumOf (G : Gx) (l : Launch) (σ0 : Shp) (X1 : Stt) (rv : Option SV) : Stt → Nat → List (Nat × SV) → List SV → Prop := Wm G l yX12_sumOf cX12_sumOf 5 (some .int) (fun _ => True) (rmx 0 0 σ0 X1.1) σ0 (Qmx G σ0 X1 rv)
def fX12_sumOf_l4  (σ : Shp) (I : Nat → Nat → Int32) : Nat → (Option Nat) → (Int32) → (Int32) → (Int32) → Option ((Int32))
  | 0, _, _, _, _ => none
  | n + 1, x0, x1, x2, x3 =>
    if (60 : Int32) ≤ x3 then
      some x2
    else
      (x0 : Option Nat).bind fun a1 =>
      if kdx σ a1 = 20 then
      if ¬ ((x1 + x3) < 0 ∨ lnx σ a1 ≤ Int32.toNatClampNeg (x1 + x3)) then
      let v4 := (x2 ^^^ (I a1 (Int32.toNatClampNeg (x1 + x3))))
      let v5 := (((v4 <<< ((11 : Int32) &&& 31)) ||| ((Int32.toUInt32 v4 >>> (Int32.toUInt32 (21 : Int32) &&& Int32.toUInt32 31)).toInt32)) * (-1028477387 : Int32))
      let v6 := x3 + (1 : Int32)
      fX12_sumOf_l4 σ I n x0 x1 v5 v6
      else none
      else none
theorem wX12_sumOf_l4 {G : Gx} {l : Launch} {σ : Shp} {I : Nat → Nat → Int32} {J : Nat → Nat → Int64} {D : Nat → Nat → UInt64} {R : Nat → Nat → Option Nat} {r9 : Int32} : ∀ (n : Nat) (x0 : Option Nat) (x1 : Int32) (x2 : Int32) (x3 : Int32), fX12_sumOf_l4 σ I n x0 x1 x2 x3 = some r9 → WX12_sumOf G l σ (σ, I, J, D, R) (some (vI r9)) (σ, I, J, D, R) 4 [(0, vR x0), (1, vI x1), (2, vI x2), (3, vI x3)] [] := by
  intro n
  induction n with
  | zero =>
    intro x0 x1 x2 x3 h
    have h : none = some _ := h
    cases h
  | succ n ih =>
    intro x0 x1 x2 x3 h
    rw [fX12_sumOf_l4] at h
    refine r_iload_n (pc := 4) dX12_sumOf_4 rfl 3 rfl ?_
    refine r_bipush (pc := 5) dX12_sumOf_5 kc_bipush_60 ?_
    refine r_icmp_ge (pc := 7) (tgt := 41) dX12_sumOf_7 rfl (fun c => ?_) (fun c => ?_)
    · have h := it h c
      refine r_iload_n (pc := 41) dX12_sumOf_41 rfl 2 rfl ?_
      cases h
      exact r_iret dX12_sumOf_42
    · have h := ie h c
      refine r_iload_n (pc := 10) dX12_sumOf_10 rfl 2 rfl ?_
      refine r_aload_n (pc := 11) dX12_sumOf_11 rfl 0 rfl ?_
      refine r_iload_n (pc := 12) dX12_sumOf_12 rfl 1 rfl ?_
      refine r_iload_n (pc := 13) dX12_sumOf_13 rfl 3 rfl ?_
      refine r_iadd (pc := 14) dX12_sumOf_14 ?_
      obtain ⟨a1, ha1, h⟩ := ob h
      refine r_ref1 ha1 ?_
      obtain ⟨g2, h⟩ := gd h
      obtain ⟨g3, h⟩ := gd h
      refine r_iaload (pc := 15) dX12_sumOf_15 g2 g3 ?_
      refine r_ixor (pc := 16) dX12_sumOf_16 ?_
      refine r_istore (pc := 17) (L' := [(4, vI (x2 ^^^ (I a1 (Int32.toNatClampNeg (x1 + x3))))), (0, vR x0), (1, vI x1), (2, vI x2), (3, vI x3)]) dX12_sumOf_17 (by decide) rfl ?_
      refine r_iload (pc := 19) dX12_sumOf_19 0 rfl ?_
      refine r_bipush (pc := 21) dX12_sumOf_21 kc_bipush_11 ?_
      refine r_ishl (pc := 23) dX12_sumOf_23 ?_
      refine r_iload (pc := 24) dX12_sumOf_24 0 rfl ?_
      refine r_bipush (pc := 26) dX12_sumOf_26 kc_bipush_21 ?_
      refine r_iushr (pc := 28) dX12_sumOf_28 ?_
      refine r_ior (pc := 29) dX12_sumOf_29 ?_
      refine r_ldcw (pc := 30) dX12_sumOf_30 ciX12_780 ?_
      refine r_imul (pc := 33) dX12_sumOf_33 ?_
      refine r_istore_n (pc := 34) (L' := [(2, vI ((((x2 ^^^ (I a1 (Int32.toNatClampNeg (x1 + x3)))) <<< ((11 : Int32) &&& 31)) ||| ((Int32.toUInt32 (x2 ^^^ (I a1 (Int32.toNatClampNeg (x1 + x3)))) >>> (Int32.toUInt32 (21 : Int32) &&& Int32.toUInt32 31)).toInt32)) * (-1028477387 : Int32))), (4, vI (x2 ^^^ (I a1 (Int32.toNatClampNeg (x1 + x3))))), (0, vR x0), (1, vI x1), (3, vI x3)]) dX12_sumOf_34 rfl (by decide) rfl ?_
      refine r_iinc (pc := 35) (v := (x3 + (1 : Int32))) (L' := [(3, vI (x3 + (1 : Int32))), (2, vI ((((x2 ^^^ (I a1 (Int32.toNatClampNeg (x1 + x3)))) <<< ((11 : Int32) &&& 31)) ||| ((Int32.toUInt32 (x2 ^^^ (I a1 (Int32.toNatClampNeg (x1 + x3)))) >>> (Int32.toUInt32 (21 : Int32) &&& Int32.toUInt32 31)).toInt32)) * (-1028477387 : Int32))), (4, vI (x2 ^^^ (I a1 (Int32.toNatClampNeg (x1 + x3))))), (0, vR x0), (1, vI x1)]) dX12_sumOf_35 4 rfl (kc_inc_1 _) (by decide) rfl ?_
      refine r_goto (pc := 38) (tgt := 4) dX12_sumOf_38 rfl ?_
      refine r_sub [3, 4, 1, 0] rfl ?_
      exact ih _ _ _ _ h
def fX12_sumOf (σ : Shp) (I : Nat → Nat → Int32) (x0 : Option Nat) (x1 : Int32) : Option ((Int32)) :=
  fX12_sumOf_l4 σ I FUx x0 x1 (0 : Int32) (0 : Int32)
theorem kX12_sumOf {G : Gx} {l : Launch} {σ : Shp} {I : Nat → Nat → Int32} {J : Nat → Nat → Int64} {D : Nat → Nat → UInt64} {R : Nat → Nat → Option Nat} {x0 : Option Nat} {x1 : Int32} {r9 : Int32} (h : fX12_sumOf σ I x0 x1 = some r9) : Con G l yX12_sumOf cX12_sumOf 5 (some .int) 0 0 [vR x0, vI x1] (σ, I, J, D, R) (σ, I, J, D, R) (some (vI r9)) := by
  unfold fX12_sumOf at h
  refine Con.mk (by decide +kernel) rfl (Nat.le_of_ble_eq_true rfl) ?_
  show WX12_sumOf G l σ (σ, I, J, D, R) (some (vI r9)) (σ, I, J, D, R) 0 _ []
  refine r_iconst (pc := 0) dX12_sumOf_0 kc_iconst_0 ?_
  refine r_istore_n (pc := 1) (L' := [(2, vI (0 : Int32)), (0, vR x0), (1, vI x1)]) dX12_sumOf_1 rfl (by decide) rfl ?_
  refine r_iconst (pc := 2) dX12_sumOf_2 kc_iconst_0 ?_
  refine r_istore_n (pc := 3) (L' := [(3, vI (0 : Int32)), (2, vI (0 : Int32)), (0, vR x0), (1, vI x1)]) dX12_sumOf_3 rfl (by decide) rfl ?_
  refine r_sub [2, 3, 1, 0] rfl ?_
  exact wX12_sumOf_l4 _ _ _ _ _ h
abbrev WX12_wide (G : Gx) (l : Launch) (σ0 : Shp) (X1 : Stt) (rv : Option SV) : Stt → Nat → List (Nat × SV) → List SV → Prop := Wm G l yX12_wide cX12_wide 6 (some .long) (fun _ => True) (rmx 0 0 σ0 X1.1) σ0 (Qmx G σ0 X1 rv)
def fX12_wide_l5  (σ : Shp) (I : Nat → Nat → Int32) : Nat → (Option Nat) → (Int32) → (Int32) → (Int64) → (Int32) → Option ((Int64))
  | 0, _, _, _, _, _ => none
  | n + 1, x0, x1, x2, x3, x5 =>
    if x2 ≤ x5 then
      some x3
    else
      (x0 : Option Nat).bind fun a1 =>
      if kdx σ a1 = 20 then
      if ¬ ((x1 + x5) < 0 ∨ lnx σ a1 ≤ Int32.toNatClampNeg (x1 + x5)) then
      let v4 := ((x3 <<< (Int32.toInt64 (8 : Int32) &&& 63)) ||| (Int32.toInt64 (I a1 (Int32.toNatClampNeg (x1 + x5)))))
      let v5 := x5 + (1 : Int32)
      fX12_wide_l5 σ I n x0 x1 x2 v4 v5
      else none
      else none
theorem wX12_wide_l5 {G : Gx} {l : Launch} {σ : Shp} {I : Nat → Nat → Int32} {J : Nat → Nat → Int64} {D : Nat → Nat → UInt64} {R : Nat → Nat → Option Nat} {r9 : Int64} : ∀ (n : Nat) (x0 : Option Nat) (x1 : Int32) (x2 : Int32) (x3 : Int64) (x5 : Int32), fX12_wide_l5 σ I n x0 x1 x2 x3 x5 = some r9 → WX12_wide G l σ (σ, I, J, D, R) (some (vL r9)) (σ, I, J, D, R) 5 [(0, vR x0), (1, vI x1), (2, vI x2), (3, vL x3), (5, vI x5)] [] := by
  intro n
  induction n with
  | zero =>
    intro x0 x1 x2 x3 x5 h
    have h : none = some _ := h
    cases h
  | succ n ih =>
    intro x0 x1 x2 x3 x5 h
    rw [fX12_wide_l5] at h
    refine r_iload (pc := 5) dX12_wide_5 4 rfl ?_
    refine r_iload_n (pc := 7) dX12_wide_7 rfl 2 rfl ?_
    refine r_icmp_ge (pc := 8) (tgt := 30) dX12_wide_8 rfl (fun c => ?_) (fun c => ?_)
    · have h := it h c
      refine r_lload_n (pc := 30) dX12_wide_30 rfl 3 rfl ?_
      cases h
      exact r_lret dX12_wide_31
    · have h := ie h c
      refine r_lload_n (pc := 11) dX12_wide_11 rfl 3 rfl ?_
      refine r_bipush (pc := 12) dX12_wide_12 kc_bipush_8 ?_
      refine r_lshl (pc := 14) dX12_wide_14 ?_
      refine r_aload_n (pc := 15) dX12_wide_15 rfl 0 rfl ?_
      refine r_iload_n (pc := 16) dX12_wide_16 rfl 1 rfl ?_
      refine r_iload (pc := 17) dX12_wide_17 4 rfl ?_
      refine r_iadd (pc := 19) dX12_wide_19 ?_
      obtain ⟨a1, ha1, h⟩ := ob h
      refine r_ref1 ha1 ?_
      obtain ⟨g2, h⟩ := gd h
      obtain ⟨g3, h⟩ := gd h
      refine r_iaload (pc := 20) dX12_wide_20 g2 g3 ?_
      refine r_i2l (pc := 21) dX12_wide_21 ?_
      refine r_lor (pc := 22) dX12_wide_22 ?_
      refine r_lstore_n (pc := 23) (L' := [(3, vL ((x3 <<< (Int32.toInt64 (8 : Int32) &&& 63)) ||| (Int32.toInt64 (I a1 (Int32.toNatClampNeg (x1 + x5)))))), (0, vR x0), (1, vI x1), (2, vI x2), (5, vI x5)]) dX12_wide_23 rfl (by decide) rfl ?_
      refine r_iinc (pc := 24) (v := (x5 + (1 : Int32))) (L' := [(5, vI (x5 + (1 : Int32))), (3, vL ((x3 <<< (Int32.toInt64 (8 : Int32) &&& 63)) ||| (Int32.toInt64 (I a1 (Int32.toNatClampNeg (x1 + x5)))))), (0, vR x0), (1, vI x1), (2, vI x2)]) dX12_wide_24 4 rfl (kc_inc_1 _) (by decide) rfl ?_
      refine r_goto (pc := 27) (tgt := 5) dX12_wide_27 rfl ?_
      refine r_sub [2, 3, 4, 1, 0] rfl ?_
      exact ih _ _ _ _ _ h
def fX12_wide (σ : Shp) (I : Nat → Nat → Int32) (x0 : Option Nat) (x1 : Int32) (x2 : Int32) : Option ((Int64)) :=
  fX12_wide_l5 σ I FUx x0 x1 x2 (0 : Int64) (0 : Int32)
theorem kX12_wide {G : Gx} {l : Launch} {σ : Shp} {I : Nat → Nat → Int32} {J : Nat → Nat → Int64} {D : Nat → Nat → UInt64} {R : Nat → Nat → Option Nat} {x0 : Option Nat} {x1 : Int32} {x2 : Int32} {r9 : Int64} (h : fX12_wide σ I x0 x1 x2 = some r9) : Con G l yX12_wide cX12_wide 6 (some .long) 0 0 [vR x0, vI x1, vI x2] (σ, I, J, D, R) (σ, I, J, D, R) (some (vL r9)) := by
  unfold fX12_wide at h
  refine Con.mk (by decide +kernel) rfl (Nat.le_of_ble_eq_true rfl) ?_
  show WX12_wide G l σ (σ, I, J, D, R) (some (vL r9)) (σ, I, J, D, R) 0 _ []
  refine r_lconst (pc := 0) dX12_wide_0 kc_lconst_0 ?_
  refine r_lstore_n (pc := 1) (L' := [(3, vL (0 : Int64)), (0, vR x0), (1, vI x1), (2, vI x2)]) dX12_wide_1 rfl (by decide) rfl ?_
  refine r_iconst (pc := 2) dX12_wide_2 kc_iconst_0 ?_
  refine r_istore (pc := 3) (L' := [(5, vI (0 : Int32)), (3, vL (0 : Int64)), (0, vR x0), (1, vI x1), (2, vI x2)]) dX12_wide_3 (by decide) rfl ?_
  refine r_sub [2, 3, 4, 1, 0] rfl ?_
  exact wX12_wide_l5 _ _ _ _ _ _ h
abbrev WX12_layWide (G : Gx) (l : Launch) (σ0 : Shp) (X1 : Stt) (rv : Option SV) : Stt → Nat → List (Nat × SV) → List SV → Prop := Wm G l yX12_layWide cX12_layWide 6 none (fun _ => True) (rmx 0 0 σ0 X1.1) σ0 (Qmx G σ0 X1 rv)
def fX12_layWide_l3  (σ : Shp) (R : Nat → Nat → Option Nat) (t : Nat) : Nat → (Nat → Nat → Int32) → (Int32) → (Int32) → (Int64) → (Int32) → Option ((Nat → Nat → Int32))
  | 0, _, _, _, _, _ => none
  | n + 1, I, x1, x2, x3, x5 =>
    if x2 ≤ x5 then
      some I
    else
      if kdx σ t = 13 then
      ((R t 128) : Option Nat).bind fun a2 =>
      if kdx σ a2 = 20 then
      if ¬ ((x1 + x5) < 0 ∨ lnx σ a2 ≤ Int32.toNatClampNeg (x1 + x5)) then
      let I5 := u2 I a2 (Int32.toNatClampNeg (x1 + x5)) (Int64.toInt32 ((x3 >>> (Int32.toInt64 ((8 : Int32) * ((x2 - (1 : Int32)) - x5)) &&& 63)) &&& (255 : Int64)))
      let v6 := x5 + (1 : Int32)
      fX12_layWide_l3 σ R t n I5 x1 x2 x3 v6
      else none
      else none
      else none
theorem wX12_layWide_l3 {G : Gx} {l : Launch} {σ : Shp} {J : Nat → Nat → Int64} {D : Nat → Nat → UInt64} {R : Nat → Nat → Option Nat} {t : Nat} {I9 : Nat → Nat → Int32} : ∀ (n : Nat) (I : Nat → Nat → Int32) (x1 : Int32) (x2 : Int32) (x3 : Int64) (x5 : Int32), fX12_layWide_l3 σ R t n I x1 x2 x3 x5 = some I9 → WX12_layWide G l σ (σ, I9, J, D, R) none (σ, I, J, D, R) 3 [(0, vR (some t)), (1, vI x1), (2, vI x2), (3, vL x3), (5, vI x5)] [] := by
  intro n
  induction n with
  | zero =>
    intro I x1 x2 x3 x5 h
    have h : none = some _ := h
    cases h
  | succ n ih =>
    intro I x1 x2 x3 x5 h
    rw [fX12_layWide_l3] at h
    refine r_iload (pc := 3) dX12_layWide_3 4 rfl ?_
    refine r_iload_n (pc := 5) dX12_layWide_5 rfl 2 rfl ?_
    refine r_icmp_ge (pc := 6) (tgt := 40) dX12_layWide_6 rfl (fun c => ?_) (fun c => ?_)
    · have h := it h c
      cases h
      exact r_vret dX12_layWide_40
    · have h := ie h c
      refine r_aload_n (pc := 9) dX12_layWide_9 rfl 0 rfl ?_
      obtain ⟨g1, h⟩ := gd h
      obtain ⟨a2, ha2, h⟩ := ob h
      refine r_getS (pc := 10) dX12_layWide_10 fgX12_293 rfl g1 ha2 ?_
      refine r_iload_n (pc := 13) dX12_layWide_13 rfl 1 rfl ?_
      refine r_iload (pc := 14) dX12_layWide_14 4 rfl ?_
      refine r_iadd (pc := 16) dX12_layWide_16 ?_
      refine r_lload_n (pc := 17) dX12_layWide_17 rfl 3 rfl ?_
      refine r_bipush (pc := 18) dX12_layWide_18 kc_bipush_8 ?_
      refine r_iload_n (pc := 20) dX12_layWide_20 rfl 2 rfl ?_
      refine r_iconst (pc := 21) dX12_layWide_21 kc_iconst_1 ?_
      refine r_isub (pc := 22) dX12_layWide_22 ?_
      refine r_iload (pc := 23) dX12_layWide_23 4 rfl ?_
      refine r_isub (pc := 25) dX12_layWide_25 ?_
      refine r_imul (pc := 26) dX12_layWide_26 ?_
      refine r_lshr (pc := 27) dX12_layWide_27 ?_
      refine r_ldc2 (pc := 28) dX12_layWide_28 clX12_781 ?_
      refine r_land (pc := 31) dX12_layWide_31 ?_
      refine r_l2i (pc := 32) dX12_layWide_32 ?_
      obtain ⟨g3, h⟩ := gd h
      obtain ⟨g4, h⟩ := gd h
      refine r_iastore (pc := 33) dX12_layWide_33 g3 g4 ?_
      refine r_iinc (pc := 34) (v := (x5 + (1 : Int32))) (L' := [(5, vI (x5 + (1 : Int32))), (0, vR (some t)), (1, vI x1), (2, vI x2), (3, vL x3)]) dX12_layWide_34 4 rfl (kc_inc_1 _) (by decide) rfl ?_
      refine r_goto (pc := 37) (tgt := 3) dX12_layWide_37 rfl ?_
      refine r_sub [1, 2, 3, 4, 0] rfl ?_
      exact ih _ _ _ _ _ h
def fX12_layWide (σ : Shp) (I : Nat → Nat → Int32) (R : Nat → Nat → Option Nat) (t : Nat) (x1 : Int32) (x2 : Int32) (x3 : Int64) : Option ((Nat → Nat → Int32)) :=
  fX12_layWide_l3 σ R t FUx I x1 x2 x3 (0 : Int32)
theorem kX12_layWide {G : Gx} {l : Launch} {σ : Shp} {I : Nat → Nat → Int32} {J : Nat → Nat → Int64} {D : Nat → Nat → UInt64} {R : Nat → Nat → Option Nat} {t : Nat} {x1 : Int32} {x2 : Int32} {x3 : Int64} {I9 : Nat → Nat → Int32} (h : fX12_layWide σ I R t x1 x2 x3 = some I9) : Con G l yX12_layWide cX12_layWide 6 none 0 0 [vR (some t), vI x1, vI x2, vL x3] (σ, I, J, D, R) (σ, I9, J, D, R) none := by
  unfold fX12_layWide at h
  refine Con.mk (by decide +kernel) rfl (Nat.le_of_ble_eq_true rfl) ?_
  show WX12_layWide G l σ (σ, I9, J, D, R) none (σ, I, J, D, R) 0 _ []
  refine r_iconst (pc := 0) dX12_layWide_0 kc_iconst_0 ?_
  refine r_istore (pc := 1) (L' := [(5, vI (0 : Int32)), (0, vR (some t)), (1, vI x1), (2, vI x2), (3, vL x3)]) dX12_layWide_1 (by decide) rfl ?_
  refine r_sub [1, 2, 3, 4, 0] rfl ?_
  exact wX12_layWide_l3 _ _ _ _ _ _ h
abbrev WX12_isPageLane (G : Gx) (l : Launch) (σ0 : Shp) (X1 : Stt) (rv : Option SV) : Stt → Nat → List (Nat × SV) → List SV → Prop := Wm G l yX12_isPageLane cX12_isPageLane 1 (some .boolean) (fun _ => True) (rmx 0 0 σ0 X1.1) σ0 (Qmx G σ0 X1 rv)
def fX12_isPageLane  (x0 : Int32) : (Int32) :=
  if x0 = (1 : Int32) then
    (1 : Int32)
  else
    if x0 < (3 : Int32) then
      (0 : Int32)
    else
      if (5 : Int32) < x0 then
        (0 : Int32)
      else
        (1 : Int32)
theorem zX12_isPageLane  (x0 : Int32) : fX12_isPageLane x0 = 0 ∨ fX12_isPageLane x0 = 1 := by
  unfold fX12_isPageLane
  repeat' (first | refine itz ?_ ?_ | exact Or.inl rfl | exact Or.inr rfl)
theorem kX12_isPageLane {G : Gx} {l : Launch} {σ : Shp} {I : Nat → Nat → Int32} {J : Nat → Nat → Int64} {D : Nat → Nat → UInt64} {R : Nat → Nat → Option Nat} {x0 : Int32} {r9 : Int32} (h : fX12_isPageLane x0 = r9) : Con G l yX12_isPageLane cX12_isPageLane 1 (some .boolean) 0 0 [vI x0] (σ, I, J, D, R) (σ, I, J, D, R) (some (vI r9)) := by
  unfold fX12_isPageLane at h
  refine Con.mk (by decide +kernel) rfl (Nat.le_of_ble_eq_true rfl) ?_
  show WX12_isPageLane G l σ (σ, I, J, D, R) (some (vI r9)) (σ, I, J, D, R) 0 _ []
  refine r_iload_n (pc := 0) dX12_isPageLane_0 rfl 0 rfl ?_
  refine r_iconst (pc := 1) dX12_isPageLane_1 kc_iconst_1 ?_
  refine r_icmp_eq (pc := 2) (tgt := 15) dX12_isPageLane_2 rfl (fun c => ?_) (fun c => ?_)
  · have h := it h c
    refine r_iconst (pc := 15) dX12_isPageLane_15 kc_iconst_1 ?_
    refine r_goto (pc := 16) (tgt := 20) dX12_isPageLane_16 rfl ?_
    subst h
    exact r_zret dX12_isPageLane_20 (Or.inr rfl)
  · have h := ie h c
    refine r_iload_n (pc := 5) dX12_isPageLane_5 rfl 0 rfl ?_
    refine r_iconst (pc := 6) dX12_isPageLane_6 kc_iconst_3 ?_
    refine r_icmp_lt (pc := 7) (tgt := 19) dX12_isPageLane_7 rfl (fun c => ?_) (fun c => ?_)
    · have h := it h c
      refine r_iconst (pc := 19) dX12_isPageLane_19 kc_iconst_0 ?_
      subst h
      exact r_zret dX12_isPageLane_20 (Or.inl rfl)
    · have h := ie h c
      refine r_iload_n (pc := 10) dX12_isPageLane_10 rfl 0 rfl ?_
      refine r_iconst (pc := 11) dX12_isPageLane_11 kc_iconst_5 ?_
      refine r_icmp_gt (pc := 12) (tgt := 19) dX12_isPageLane_12 rfl (fun c => ?_) (fun c => ?_)
      · have h := it h c
        refine r_iconst (pc := 19) dX12_isPageLane_19 kc_iconst_0 ?_
        subst h
        exact r_zret dX12_isPageLane_20 (Or.inl rfl)
      · have h := ie h c
        refine r_iconst (pc := 15) dX12_isPageLane_15 kc_iconst_1 ?_
        refine r_goto (pc := 16) (tgt := 20) dX12_isPageLane_16 rfl ?_
        subst h
        exact r_zret dX12_isPageLane_20 (Or.inr rfl)
abbrev WX12_write (G : Gx) (l : Launch) (σ0 : Shp) (X1 : Stt) (rv : Option SV) : Stt → Nat → List (Nat × SV) → List SV → Prop := Wm G l yX12_write cX12_write 5 (some .int) (fun _ => True) (rmx 1 25 σ0 X1.1) σ0 (Qmx G σ0 X1 rv)
def fX12_write_b282 (q219 : (Nat → Nat → Int32) → (Int32) → (Int32) → (Option ((Nat → Nat → Int32) × (Int32)))) (σ : Shp) (J : Nat → Nat → Int64) (R : Nat → Nat → Option Nat) (t : Nat) (I : Nat → Nat → Int32) (x3 : Int32) (x4 : Int32) (s0 : Option Nat) (s1 : Int32) (s2 : Int32) : Option ((Nat → Nat → Int32) × (Int32)) :=
  (s0 : Option Nat).bind fun a47 =>
  if kdx σ a47 = 13 then
  let I49 := u2 I a47 132 (s1 - s2)
  if kdx σ t = 13 then
  ((R t 127) : Option Nat).bind fun a51 =>
  ((R t 128) : Option Nat).bind fun a52 =>
  if kdx σ a52 = 20 then
  if ¬ (x4 < 0 ∨ lnx σ a52 ≤ Int32.toNatClampNeg x4) then
  if kdx σ a51 = 20 then
  if ¬ ((x3 + x4) < 0 ∨ lnx σ a51 ≤ Int32.toNatClampNeg (x3 + x4)) then
  let I57 := u2 I49 a51 (Int32.toNatClampNeg (x3 + x4)) (I49 a52 (Int32.toNatClampNeg x4))
  let v58 := x4 + (1 : Int32)
  q219 I57 x3 v58
  else none
  else none
  else none
  else none
  else none
  else none
theorem wX12_write_b282 {G : Gx} {l : Launch} {σ : Shp} {I : Nat → Nat → Int32} {J : Nat → Nat → Int64} {D : Nat → Nat → UInt64} {R : Nat → Nat → Option Nat} {t : Nat} {I9 : Nat → Nat → Int32} {r9 : Int32} {q219 : (Nat → Nat → Int32) → (Int32) → (Int32) → (Option ((Nat → Nat → Int32) × (Int32)))} {x3 : Int32} {x4 : Int32} {s0 : Option Nat} {s1 : Int32} {s2 : Int32} (hq219 : ∀ (I : Nat → Nat → Int32) (x3 : Int32) (x4 : Int32), q219 I x3 x4 = some (I9, r9) → WX12_write G l σ (σ, I9, J, D, R) (some (vI r9)) (σ, I, J, D, R) 219 [(0, vR (some t)), (3, vI x3), (4, vI x4)] []) (h : fX12_write_b282 q219 σ J R t I x3 x4 s0 s1 s2 = some (I9, r9)) : WX12_write G l σ (σ, I9, J, D, R) (some (vI r9)) (σ, I, J, D, R) 282 [(0, vR (some t)), (3, vI x3), (4, vI x4)] [vI s2, vI s1, vR s0] := by
  unfold fX12_write_b282 at h
  refine r_isub (pc := 282) dX12_write_282 ?_
  obtain ⟨a47, ha47, h⟩ := ob h
  refine r_ref1 ha47 ?_
  obtain ⟨g48, h⟩ := gd h
  refine r_putI (pc := 283) dX12_write_283 fwX12_296 rfl g48 ?_
  refine r_aload_n (pc := 286) dX12_write_286 rfl 0 rfl ?_
  obtain ⟨g50, h⟩ := gd h
  obtain ⟨a51, ha51, h⟩ := ob h
  refine r_getS (pc := 287) dX12_write_287 fgX12_290 rfl g50 ha51 ?_
  refine r_iload_n (pc := 290) dX12_write_290 rfl 1 rfl ?_
  refine r_iload (pc := 291) dX12_write_291 2 rfl ?_
  refine r_iadd (pc := 293) dX12_write_293 ?_
  refine r_aload_n (pc := 294) dX12_write_294 rfl 0 rfl ?_
  obtain ⟨a52, ha52, h⟩ := ob h
  refine r_getS (pc := 295) dX12_write_295 fgX12_293 rfl g50 ha52 ?_
  refine r_iload (pc := 298) dX12_write_298 2 rfl ?_
  obtain ⟨g53, h⟩ := gd h
  obtain ⟨g54, h⟩ := gd h
  refine r_iaload (pc := 300) dX12_write_300 g53 g54 ?_
  obtain ⟨g55, h⟩ := gd h
  obtain ⟨g56, h⟩ := gd h
  refine r_iastore (pc := 301) dX12_write_301 g55 g56 ?_
  refine r_iinc (pc := 302) (v := (x4 + (1 : Int32))) (L' := [(4, vI (x4 + (1 : Int32))), (0, vR (some t)), (3, vI x3)]) dX12_write_302 2 rfl (kc_inc_1 _) (by decide) rfl ?_
  refine r_goto (pc := 305) (tgt := 219) dX12_write_305 rfl ?_
  refine r_sub [1, 2, 0] rfl ?_
  exact hq219 _ _ _ h
def fX12_write_l219  (σ : Shp) (J : Nat → Nat → Int64) (R : Nat → Nat → Option Nat) (t : Nat) : Nat → (Nat → Nat → Int32) → (Int32) → (Int32) → Option ((Nat → Nat → Int32) × (Int32))
  | 0, _, _, _ => none
  | n + 1, I, x3, x4 =>
    if (64 : Int32) ≤ x4 then
      if kdx σ t = 13 then
      let I44 := u2 I t 130 ((I t 130) + (1 : Int32))
      let I45 := u2 I44 t 129 ((I44 t 129) + (1 : Int32))
      some (I45, (I45 t 129))
      else none
    else
      if kdx σ t = 13 then
      if (I t 132) = 0 then
        let I59 := u2 I t 131 (1 : Int32)
        let I60 := u2 I59 t 132 (-1 : Int32)
        if x4 ≤ 0 then
          let I61 := u2 I60 t 130 ((I60 t 130) + (0 : Int32))
          some (I61, (-3 : Int32))
        else
          let I62 := u2 I60 t 130 ((I60 t 130) + (1 : Int32))
          some (I62, (-3 : Int32))
      else
        if (I t 132) ≤ 0 then
          fX12_write_b282 (fX12_write_l219 σ J R t n) σ J R t I x3 x4 (some t) (I t 132) (0 : Int32)
        else
          fX12_write_b282 (fX12_write_l219 σ J R t n) σ J R t I x3 x4 (some t) (I t 132) (1 : Int32)
      else none
theorem wX12_write_l219 {G : Gx} {l : Launch} {σ : Shp} {J : Nat → Nat → Int64} {D : Nat → Nat → UInt64} {R : Nat → Nat → Option Nat} {t : Nat} {I9 : Nat → Nat → Int32} {r9 : Int32} : ∀ (n : Nat) (I : Nat → Nat → Int32) (x3 : Int32) (x4 : Int32), fX12_write_l219 σ J R t n I x3 x4 = some (I9, r9) → WX12_write G l σ (σ, I9, J, D, R) (some (vI r9)) (σ, I, J, D, R) 219 [(0, vR (some t)), (3, vI x3), (4, vI x4)] [] := by
  intro n
  induction n with
  | zero =>
    intro I x3 x4 h
    have h : none = some _ := h
    cases h
  | succ n ih =>
    intro I x3 x4 h
    rw [fX12_write_l219] at h
    refine r_iload (pc := 219) dX12_write_219 2 rfl ?_
    refine r_bipush (pc := 221) dX12_write_221 kc_bipush_64 ?_
    refine r_icmp_ge (pc := 223) (tgt := 308) dX12_write_223 rfl (fun c => ?_) (fun c => ?_)
    · have h := it h c
      refine r_aload_n (pc := 308) dX12_write_308 rfl 0 rfl ?_
      refine r_dup (pc := 309) dX12_write_309 rfl ?_
      obtain ⟨g43, h⟩ := gd h
      refine r_getI (pc := 310) dX12_write_310 fgX12_789 rfl g43 ?_
      refine r_iconst (pc := 313) dX12_write_313 kc_iconst_1 ?_
      refine r_iadd (pc := 314) dX12_write_314 ?_
      refine r_putI (pc := 315) dX12_write_315 fwX12_789 rfl g43 ?_
      refine r_aload_n (pc := 318) dX12_write_318 rfl 0 rfl ?_
      refine r_dup (pc := 319) dX12_write_319 rfl ?_
      refine r_getI (pc := 320) dX12_write_320 fgX12_792 rfl g43 ?_
      refine r_iconst (pc := 323) dX12_write_323 kc_iconst_1 ?_
      refine r_iadd (pc := 324) dX12_write_324 ?_
      refine r_putI (pc := 325) dX12_write_325 fwX12_792 rfl g43 ?_
      refine r_aload_n (pc := 328) dX12_write_328 rfl 0 rfl ?_
      refine r_getI (pc := 329) dX12_write_329 fgX12_792 rfl g43 ?_
      cases h
      exact r_iret dX12_write_332
    · have h := ie h c
      refine r_aload_n (pc := 226) dX12_write_226 rfl 0 rfl ?_
      obtain ⟨g46, h⟩ := gd h
      refine r_getI (pc := 227) dX12_write_227 fgX12_296 rfl g46 ?_
      refine r_ifne (pc := 230) (tgt := 265) dX12_write_230 rfl (fun c => ?_) (fun c => ?_)
      · have h := ie h c
        refine r_aload_n (pc := 265) dX12_write_265 rfl 0 rfl ?_
        refine r_dup (pc := 266) dX12_write_266 rfl ?_
        refine r_getI (pc := 267) dX12_write_267 fgX12_296 rfl g46 ?_
        refine r_aload_n (pc := 270) dX12_write_270 rfl 0 rfl ?_
        refine r_getI (pc := 271) dX12_write_271 fgX12_296 rfl g46 ?_
        refine r_if_le (pc := 274) (tgt := 281) dX12_write_274 rfl (fun c => ?_) (fun c => ?_)
        · have h := it h c
          refine r_iconst (pc := 281) dX12_write_281 kc_iconst_0 ?_
          refine r_sub [0, 1, 2] rfl ?_
          exact wX12_write_b282 ih h
        · have h := ie h c
          refine r_iconst (pc := 277) dX12_write_277 kc_iconst_1 ?_
          refine r_goto (pc := 278) (tgt := 282) dX12_write_278 rfl ?_
          refine r_sub [0, 1, 2] rfl ?_
          exact wX12_write_b282 ih h
      · have h := it h c
        refine r_aload_n (pc := 233) dX12_write_233 rfl 0 rfl ?_
        refine r_iconst (pc := 234) dX12_write_234 kc_iconst_1 ?_
        refine r_putZ (pc := 235) dX12_write_235 fwX12_786 rfl (Or.inr rfl) g46 ?_
        refine r_aload_n (pc := 238) dX12_write_238 rfl 0 rfl ?_
        refine r_iconst (pc := 239) dX12_write_239 kc_iconst_m1 ?_
        refine r_putI (pc := 240) dX12_write_240 fwX12_296 rfl g46 ?_
        refine r_aload_n (pc := 243) dX12_write_243 rfl 0 rfl ?_
        refine r_dup (pc := 244) dX12_write_244 rfl ?_
        refine r_getI (pc := 245) dX12_write_245 fgX12_789 rfl g46 ?_
        refine r_iload (pc := 248) dX12_write_248 2 rfl ?_
        refine r_if_le (pc := 250) (tgt := 257) dX12_write_250 rfl (fun c => ?_) (fun c => ?_)
        · have h := it h c
          refine r_iconst (pc := 257) dX12_write_257 kc_iconst_0 ?_
          refine r_iadd (pc := 258) dX12_write_258 ?_
          refine r_putI (pc := 259) dX12_write_259 fwX12_789 rfl g46 ?_
          refine r_bipush (pc := 262) dX12_write_262 kc_bipush_m3 ?_
          cases h
          exact r_iret dX12_write_264
        · have h := ie h c
          refine r_iconst (pc := 253) dX12_write_253 kc_iconst_1 ?_
          refine r_goto (pc := 254) (tgt := 258) dX12_write_254 rfl ?_
          refine r_iadd (pc := 258) dX12_write_258 ?_
          refine r_putI (pc := 259) dX12_write_259 fwX12_789 rfl g46 ?_
          refine r_bipush (pc := 262) dX12_write_262 kc_bipush_m3 ?_
          cases h
          exact r_iret dX12_write_264
def fX12_write_l150  (σ : Shp) (J : Nat → Nat → Int64) (R : Nat → Nat → Option Nat) (t : Nat) : Nat → (Nat → Nat → Int32) → (Int32) → (Int32) → Option ((Nat → Nat → Int32) × (Int32))
  | 0, _, _, _ => none
  | n + 1, I, x2, x3 =>
    if kdx σ t = 13 then
    ((R t 5) : Option Nat).bind fun a34 =>
    if kdx σ a34 = 22 then
    if ¬ (x2 < 0 ∨ lnx σ a34 ≤ Int32.toNatClampNeg x2) then
    if (I a34 (Int32.toNatClampNeg x2)) ≤ x3 then
      ((R t 128) : Option Nat).bind fun a37 =>
      (fX12_sumOf σ I (some a37) (0 : Int32)).bind fun r38 =>
      (fX12_layWide σ I R t (60 : Int32) (4 : Int32) (Int32.toInt64 r38)).bind fun I40 =>
      let v42 := ((64 : Int32) * (I40 t 130))
      fX12_write_l219 σ J R t FUx I40 v42 (0 : Int32)
    else
      ((R t 8) : Option Nat).bind fun a63 =>
      ((R t 6) : Option Nat).bind fun a64 =>
      if kdx σ a64 = 20 then
      if ¬ (x2 < 0 ∨ lnx σ a64 ≤ Int32.toNatClampNeg x2) then
      if kdx σ a63 = 21 then
      if ¬ (((I a64 (Int32.toNatClampNeg x2)) + x3) < 0 ∨ lnx σ a63 ≤ Int32.toNatClampNeg ((I a64 (Int32.toNatClampNeg x2)) + x3)) then
      (fX12_layWide σ I R t ((12 : Int32) + ((8 : Int32) * x3)) (8 : Int32) (J a63 (Int32.toNatClampNeg ((I a64 (Int32.toNatClampNeg x2)) + x3)))).bind fun I69 =>
      let v71 := x3 + (1 : Int32)
      fX12_write_l150 σ J R t n I69 x2 v71
      else none
      else none
      else none
      else none
    else none
    else none
    else none
theorem wX12_write_l150 {G : Gx} {l : Launch} {σ : Shp} {J : Nat → Nat → Int64} {D : Nat → Nat → UInt64} {R : Nat → Nat → Option Nat} {t : Nat} {I9 : Nat → Nat → Int32} {r9 : Int32} : ∀ (n : Nat) (I : Nat → Nat → Int32) (x2 : Int32) (x3 : Int32), fX12_write_l150 σ J R t n I x2 x3 = some (I9, r9) → WX12_write G l σ (σ, I9, J, D, R) (some (vI r9)) (σ, I, J, D, R) 150 [(0, vR (some t)), (2, vI x2), (3, vI x3)] [] := by
  intro n
  induction n with
  | zero =>
    intro I x2 x3 h
    have h : none = some _ := h
    cases h
  | succ n ih =>
    intro I x2 x3 h
    rw [fX12_write_l150] at h
    refine r_iload_n (pc := 150) dX12_write_150 rfl 2 rfl ?_
    refine r_aload_n (pc := 151) dX12_write_151 rfl 0 rfl ?_
    obtain ⟨g33, h⟩ := gd h
    obtain ⟨a34, ha34, h⟩ := ob h
    refine r_getS (pc := 152) dX12_write_152 fgX12_19 rfl g33 ha34 ?_
    refine r_iload_n (pc := 155) dX12_write_155 rfl 1 rfl ?_
    obtain ⟨g35, h⟩ := gd h
    obtain ⟨g36, h⟩ := gd h
    refine r_baload (pc := 156) dX12_write_156 g35 g36 ?_
    refine r_icmp_ge (pc := 157) (tgt := 192) dX12_write_157 rfl (fun c => ?_) (fun c => ?_)
    · have h := it h c
      refine r_aload_n (pc := 192) dX12_write_192 rfl 0 rfl ?_
      refine r_bipush (pc := 193) dX12_write_193 kc_bipush_60 ?_
      refine r_iconst (pc := 195) dX12_write_195 kc_iconst_4 ?_
      refine r_aload_n (pc := 196) dX12_write_196 rfl 0 rfl ?_
      obtain ⟨a37, ha37, h⟩ := ob h
      refine r_getS (pc := 197) dX12_write_197 fgX12_293 rfl g33 ha37 ?_
      refine r_iconst (pc := 200) dX12_write_200 kc_iconst_0 ?_
      obtain ⟨r38, hc39, h⟩ := ob h
      refine r_callS1 (pc := 201) (av := [vR (some a37), vI (0 : Int32)]) (S := [vI (4 : Int32), vI (60 : Int32), vR (some t)]) dX12_write_201 (kX12_sumOf hc39) mkX12_800 mwX12_sumOf rfl ⟨Nat.le_of_ble_eq_true rfl, Nat.le_of_ble_eq_true rfl⟩ (Nat.le_of_ble_eq_true rfl) ⟨Nat.le_refl _, Nat.le_refl _⟩ (fun b => b) ?_
      refine r_i2l (pc := 204) dX12_write_204 ?_
      obtain ⟨I40, hc41, h⟩ := ob h
      refine r_callV0 (pc := 205) (av := [vI (60 : Int32), vI (4 : Int32), vL (Int32.toInt64 r38)]) (S := []) dX12_write_205 (kX12_layWide hc41) g33 rfl mkX12_796 mwX12_layWide rfl ⟨Nat.le_of_ble_eq_true rfl, Nat.le_of_ble_eq_true rfl⟩ (Nat.le_of_ble_eq_true rfl) ⟨Nat.le_refl _, Nat.le_refl _⟩ (fun b => b) ?_
      refine r_bipush (pc := 208) dX12_write_208 kc_bipush_64 ?_
      refine r_aload_n (pc := 210) dX12_write_210 rfl 0 rfl ?_
      refine r_getI (pc := 211) dX12_write_211 fgX12_789 rfl g33 ?_
      refine r_imul (pc := 214) dX12_write_214 ?_
      refine r_istore_n (pc := 215) (L' := [(3, vI ((64 : Int32) * (I40 t 130))), (0, vR (some t)), (2, vI x2)]) dX12_write_215 rfl (by decide) rfl ?_
      refine r_iconst (pc := 216) dX12_write_216 kc_iconst_0 ?_
      refine r_istore (pc := 217) (L' := [(4, vI (0 : Int32)), (3, vI ((64 : Int32) * (I40 t 130))), (0, vR (some t)), (2, vI x2)]) dX12_write_217 (by decide) rfl ?_
      refine r_sub [2, 1, 0] rfl ?_
      exact wX12_write_l219 _ _ _ _ h
    · have h := ie h c
      refine r_aload_n (pc := 160) dX12_write_160 rfl 0 rfl ?_
      refine r_bipush (pc := 161) dX12_write_161 kc_bipush_12 ?_
      refine r_bipush (pc := 163) dX12_write_163 kc_bipush_8 ?_
      refine r_iload_n (pc := 165) dX12_write_165 rfl 2 rfl ?_
      refine r_imul (pc := 166) dX12_write_166 ?_
      refine r_iadd (pc := 167) dX12_write_167 ?_
      refine r_bipush (pc := 168) dX12_write_168 kc_bipush_8 ?_
      refine r_aload_n (pc := 170) dX12_write_170 rfl 0 rfl ?_
      obtain ⟨a63, ha63, h⟩ := ob h
      refine r_getS (pc := 171) dX12_write_171 fgX12_26 rfl g33 ha63 ?_
      refine r_aload_n (pc := 174) dX12_write_174 rfl 0 rfl ?_
      obtain ⟨a64, ha64, h⟩ := ob h
      refine r_getS (pc := 175) dX12_write_175 fgX12_22 rfl g33 ha64 ?_
      refine r_iload_n (pc := 178) dX12_write_178 rfl 1 rfl ?_
      obtain ⟨g65, h⟩ := gd h
      obtain ⟨g66, h⟩ := gd h
      refine r_iaload (pc := 179) dX12_write_179 g65 g66 ?_
      refine r_iload_n (pc := 180) dX12_write_180 rfl 2 rfl ?_
      refine r_iadd (pc := 181) dX12_write_181 ?_
      obtain ⟨g67, h⟩ := gd h
      obtain ⟨g68, h⟩ := gd h
      refine r_laload (pc := 182) dX12_write_182 g67 g68 ?_
      obtain ⟨I69, hc70, h⟩ := ob h
      refine r_callV0 (pc := 183) (av := [vI ((12 : Int32) + ((8 : Int32) * x3)), vI (8 : Int32), vL (J a63 (Int32.toNatClampNeg ((I a64 (Int32.toNatClampNeg x2)) + x3)))]) (S := []) dX12_write_183 (kX12_layWide hc70) g33 rfl mkX12_796 mwX12_layWide rfl ⟨Nat.le_of_ble_eq_true rfl, Nat.le_of_ble_eq_true rfl⟩ (Nat.le_of_ble_eq_true rfl) ⟨Nat.le_refl _, Nat.le_refl _⟩ (fun b => b) ?_
      refine r_iinc (pc := 186) (v := (x3 + (1 : Int32))) (L' := [(3, vI (x3 + (1 : Int32))), (0, vR (some t)), (2, vI x2)]) dX12_write_186 2 rfl (kc_inc_1 _) (by decide) rfl ?_
      refine r_goto (pc := 189) (tgt := 150) dX12_write_189 rfl ?_
      refine r_sub [1, 2, 0] rfl ?_
      exact ih _ _ _ h
def fX12_write_l92  (σ : Shp) (J : Nat → Nat → Int64) (R : Nat → Nat → Option Nat) (t : Nat) : Nat → (Nat → Nat → Int32) → (Int32) → (Int32) → Option ((Nat → Nat → Int32) × (Int32))
  | 0, _, _, _ => none
  | n + 1, I, x2, x3 =>
    if (64 : Int32) ≤ x3 then
      if kdx σ t = 13 then
      (fX12_layWide σ I R t (0 : Int32) (4 : Int32) (Int32.toInt64 ((I t 129) + (1 : Int32)))).bind fun I19 =>
      ((R t 128) : Option Nat).bind fun a21 =>
      ((R t 4) : Option Nat).bind fun a22 =>
      if kdx σ a22 = 22 then
      if ¬ (x2 < 0 ∨ lnx σ a22 ≤ Int32.toNatClampNeg x2) then
      if kdx σ a21 = 20 then
      if ¬ ((4 : Int32) < 0 ∨ lnx σ a21 ≤ Int32.toNatClampNeg (4 : Int32)) then
      let I27 := u2 I19 a21 (Int32.toNatClampNeg (4 : Int32)) (I19 a22 (Int32.toNatClampNeg x2))
      ((R t 5) : Option Nat).bind fun a28 =>
      if kdx σ a28 = 22 then
      if ¬ (x2 < 0 ∨ lnx σ a28 ≤ Int32.toNatClampNeg x2) then
      if ¬ ((5 : Int32) < 0 ∨ lnx σ a21 ≤ Int32.toNatClampNeg (5 : Int32)) then
      let I32 := u2 I27 a21 (Int32.toNatClampNeg (5 : Int32)) (I27 a28 (Int32.toNatClampNeg x2))
      fX12_write_l150 σ J R t FUx I32 x2 (0 : Int32)
      else none
      else none
      else none
      else none
      else none
      else none
      else none
      else none
    else
      if kdx σ t = 13 then
      ((R t 128) : Option Nat).bind fun a73 =>
      if kdx σ a73 = 20 then
      if ¬ (x3 < 0 ∨ lnx σ a73 ≤ Int32.toNatClampNeg x3) then
      let I76 := u2 I a73 (Int32.toNatClampNeg x3) (0 : Int32)
      let v77 := x3 + (1 : Int32)
      fX12_write_l92 σ J R t n I76 x2 v77
      else none
      else none
      else none
theorem wX12_write_l92 {G : Gx} {l : Launch} {σ : Shp} {J : Nat → Nat → Int64} {D : Nat → Nat → UInt64} {R : Nat → Nat → Option Nat} {t : Nat} {I9 : Nat → Nat → Int32} {r9 : Int32} : ∀ (n : Nat) (I : Nat → Nat → Int32) (x2 : Int32) (x3 : Int32), fX12_write_l92 σ J R t n I x2 x3 = some (I9, r9) → WX12_write G l σ (σ, I9, J, D, R) (some (vI r9)) (σ, I, J, D, R) 92 [(0, vR (some t)), (2, vI x2), (3, vI x3)] [] := by
  intro n
  induction n with
  | zero =>
    intro I x2 x3 h
    have h : none = some _ := h
    cases h
  | succ n ih =>
    intro I x2 x3 h
    rw [fX12_write_l92] at h
    refine r_iload_n (pc := 92) dX12_write_92 rfl 2 rfl ?_
    refine r_bipush (pc := 93) dX12_write_93 kc_bipush_64 ?_
    refine r_icmp_ge (pc := 95) (tgt := 111) dX12_write_95 rfl (fun c => ?_) (fun c => ?_)
    · have h := it h c
      refine r_aload_n (pc := 111) dX12_write_111 rfl 0 rfl ?_
      refine r_iconst (pc := 112) dX12_write_112 kc_iconst_0 ?_
      refine r_iconst (pc := 113) dX12_write_113 kc_iconst_4 ?_
      refine r_aload_n (pc := 114) dX12_write_114 rfl 0 rfl ?_
      obtain ⟨g18, h⟩ := gd h
      refine r_getI (pc := 115) dX12_write_115 fgX12_792 rfl g18 ?_
      refine r_iconst (pc := 118) dX12_write_118 kc_iconst_1 ?_
      refine r_iadd (pc := 119) dX12_write_119 ?_
      refine r_i2l (pc := 120) dX12_write_120 ?_
      obtain ⟨I19, hc20, h⟩ := ob h
      refine r_callV0 (pc := 121) (av := [vI (0 : Int32), vI (4 : Int32), vL (Int32.toInt64 ((I t 129) + (1 : Int32)))]) (S := []) dX12_write_121 (kX12_layWide hc20) g18 rfl mkX12_796 mwX12_layWide rfl ⟨Nat.le_of_ble_eq_true rfl, Nat.le_of_ble_eq_true rfl⟩ (Nat.le_of_ble_eq_true rfl) ⟨Nat.le_refl _, Nat.le_refl _⟩ (fun b => b) ?_
      refine r_aload_n (pc := 124) dX12_write_124 rfl 0 rfl ?_
      obtain ⟨a21, ha21, h⟩ := ob h
      refine r_getS (pc := 125) dX12_write_125 fgX12_293 rfl g18 ha21 ?_
      refine r_iconst (pc := 128) dX12_write_128 kc_iconst_4 ?_
      refine r_aload_n (pc := 129) dX12_write_129 rfl 0 rfl ?_
      obtain ⟨a22, ha22, h⟩ := ob h
      refine r_getS (pc := 130) dX12_write_130 fgX12_15 rfl g18 ha22 ?_
      refine r_iload_n (pc := 133) dX12_write_133 rfl 1 rfl ?_
      obtain ⟨g23, h⟩ := gd h
      obtain ⟨g24, h⟩ := gd h
      refine r_baload (pc := 134) dX12_write_134 g23 g24 ?_
      obtain ⟨g25, h⟩ := gd h
      obtain ⟨g26, h⟩ := gd h
      refine r_iastore (pc := 135) dX12_write_135 g25 g26 ?_
      refine r_aload_n (pc := 136) dX12_write_136 rfl 0 rfl ?_
      refine r_getS (pc := 137) dX12_write_137 fgX12_293 rfl g18 ha21 ?_
      refine r_iconst (pc := 140) dX12_write_140 kc_iconst_5 ?_
      refine r_aload_n (pc := 141) dX12_write_141 rfl 0 rfl ?_
      obtain ⟨a28, ha28, h⟩ := ob h
      refine r_getS (pc := 142) dX12_write_142 fgX12_19 rfl g18 ha28 ?_
      refine r_iload_n (pc := 145) dX12_write_145 rfl 1 rfl ?_
      obtain ⟨g29, h⟩ := gd h
      obtain ⟨g30, h⟩ := gd h
      refine r_baload (pc := 146) dX12_write_146 g29 g30 ?_
      obtain ⟨g31, h⟩ := gd h
      refine r_iastore (pc := 147) dX12_write_147 g25 g31 ?_
      refine r_iconst (pc := 148) dX12_write_148 kc_iconst_0 ?_
      refine r_istore_n (pc := 149) (L' := [(3, vI (0 : Int32)), (0, vR (some t)), (2, vI x2)]) dX12_write_149 rfl (by decide) rfl ?_
      refine r_sub [1, 2, 0] rfl ?_
      exact wX12_write_l150 _ _ _ _ h
    · have h := ie h c
      refine r_aload_n (pc := 98) dX12_write_98 rfl 0 rfl ?_
      obtain ⟨g72, h⟩ := gd h
      obtain ⟨a73, ha73, h⟩ := ob h
      refine r_getS (pc := 99) dX12_write_99 fgX12_293 rfl g72 ha73 ?_
      refine r_iload_n (pc := 102) dX12_write_102 rfl 2 rfl ?_
      refine r_iconst (pc := 103) dX12_write_103 kc_iconst_0 ?_
      obtain ⟨g74, h⟩ := gd h
      obtain ⟨g75, h⟩ := gd h
      refine r_iastore (pc := 104) dX12_write_104 g74 g75 ?_
      refine r_iinc (pc := 105) (v := (x3 + (1 : Int32))) (L' := [(3, vI (x3 + (1 : Int32))), (0, vR (some t)), (2, vI x2)]) dX12_write_105 2 rfl (kc_inc_1 _) (by decide) rfl ?_
      refine r_goto (pc := 108) (tgt := 92) dX12_write_108 rfl ?_
      refine r_sub [1, 2, 0] rfl ?_
      exact ih _ _ _ h
def fX12_write (σ : Shp) (I : Nat → Nat → Int32) (J : Nat → Nat → Int64) (R : Nat → Nat → Option Nat) (t : Nat) (x1 : Int32) : Option ((Nat → Nat → Int32) × (Int32)) :=
  if (fX12_isBin x1) = 0 then
    some (I, (-2 : Int32))
  else
    if kdx σ t = 13 then
    ((R t 3) : Option Nat).bind fun a2 =>
    if kdx σ a2 = 20 then
    if ¬ (x1 < 0 ∨ lnx σ a2 ≤ Int32.toNatClampNeg x1) then
    let v5 := (I a2 (Int32.toNatClampNeg x1))
    if v5 = 0 then
      if v5 = 0 then
        (fX12_no σ I t (1 : Int32)).bind fun (I9, r10) =>
        some (I9, r10)
      else
        (fX12_no σ I t (4 : Int32)).bind fun (I6, r7) =>
        some (I6, r7)
    else
      ((R t 4) : Option Nat).bind fun a12 =>
      if kdx σ a12 = 22 then
      if ¬ (v5 < 0 ∨ lnx σ a12 ≤ Int32.toNatClampNeg v5) then
      if (fX12_isPageLane (I a12 (Int32.toNatClampNeg v5))) = 0 then
        if v5 = 0 then
          (fX12_no σ I t (1 : Int32)).bind fun (I81, r82) =>
          some (I81, r82)
        else
          (fX12_no σ I t (4 : Int32)).bind fun (I78, r79) =>
          some (I78, r79)
      else
        if (I t 131) = 0 then
          ((R t 5) : Option Nat).bind fun a15 =>
          if kdx σ a15 = 22 then
          if ¬ (v5 < 0 ∨ lnx σ a15 ≤ Int32.toNatClampNeg v5) then
          if (6 : Int32) < (I a15 (Int32.toNatClampNeg v5)) then
            some (I, (-4 : Int32))
          else
            if (I t 130) = (20 : Int32) then
              some (I, (-4 : Int32))
            else
              if (I t 129) = (2147483647 : Int32) then
                some (I, (-4 : Int32))
              else
                fX12_write_l92 σ J R t FUx I v5 (0 : Int32)
          else none
          else none
        else
          some (I, (-3 : Int32))
      else none
      else none
    else none
    else none
    else none
theorem kX12_write {G : Gx} {l : Launch} {σ : Shp} {I : Nat → Nat → Int32} {J : Nat → Nat → Int64} {D : Nat → Nat → UInt64} {R : Nat → Nat → Option Nat} {t : Nat} {x1 : Int32} {I9 : Nat → Nat → Int32} {r9 : Int32} (h : fX12_write σ I J R t x1 = some (I9, r9)) : Con G l yX12_write cX12_write 5 (some .int) 1 25 [vR (some t), vI x1] (σ, I, J, D, R) (σ, I9, J, D, R) (some (vI r9)) := by
  unfold fX12_write at h
  refine Con.mk (by decide +kernel) rfl (Nat.le_of_ble_eq_true rfl) ?_
  show WX12_write G l σ (σ, I9, J, D, R) (some (vI r9)) (σ, I, J, D, R) 0 _ []
  refine r_iload_n (pc := 0) dX12_write_0 rfl 1 rfl ?_
  refine r_callS1 (pc := 1) (av := [vI x1]) (S := []) dX12_write_1 (kX12_isBin rfl) mkX12_345 mwX12_isBin rfl ⟨Nat.le_of_ble_eq_true rfl, Nat.le_of_ble_eq_true rfl⟩ (Nat.le_of_ble_eq_true rfl) ⟨Nat.le_refl _, Nat.le_refl _⟩ (fun b => b) ?_
  refine r_ifne (pc := 4) (tgt := 10) dX12_write_4 rfl (fun c => ?_) (fun c => ?_)
  · have h := ie h c
    refine r_aload_n (pc := 10) dX12_write_10 rfl 0 rfl ?_
    obtain ⟨g1, h⟩ := gd h
    obtain ⟨a2, ha2, h⟩ := ob h
    refine r_getS (pc := 11) dX12_write_11 fgX12_9 rfl g1 ha2 ?_
    refine r_iload_n (pc := 14) dX12_write_14 rfl 1 rfl ?_
    obtain ⟨g3, h⟩ := gd h
    obtain ⟨g4, h⟩ := gd h
    refine r_iaload (pc := 15) dX12_write_15 g3 g4 ?_
    refine r_istore_n (pc := 16) (L' := [(2, vI (I a2 (Int32.toNatClampNeg x1))), (0, vR (some t)), (1, vI x1)]) dX12_write_16 rfl (by decide) rfl ?_
    refine r_iload_n (pc := 17) dX12_write_17 rfl 0 rfl ?_
    refine r_if_eq (pc := 18) (tgt := 33) dX12_write_18 rfl (fun c => ?_) (fun c => ?_)
    · have h := it h c
      refine r_aload_n (pc := 33) dX12_write_33 rfl 1 rfl ?_
      refine r_iload_n (pc := 34) dX12_write_34 rfl 0 rfl ?_
      refine r_ifne (pc := 35) (tgt := 42) dX12_write_35 rfl (fun c => ?_) (fun c => ?_)
      · have h := ie h c
        refine r_iconst (pc := 42) dX12_write_42 kc_iconst_4 ?_
        obtain ⟨⟨I6, r7⟩, hc8, h⟩ := ob h
        refine r_callV1 (pc := 43) (av := [vI (4 : Int32)]) (S := []) dX12_write_43 (kX12_no hc8) g1 rfl mkX12_308 mwX12_no rfl ⟨Nat.le_of_ble_eq_true rfl, Nat.le_of_ble_eq_true rfl⟩ (Nat.le_of_ble_eq_true rfl) ⟨Nat.le_refl _, Nat.le_refl _⟩ (fun b => b) ?_
        cases h
        exact r_iret dX12_write_46
      · have h := it h c
        refine r_iconst (pc := 38) dX12_write_38 kc_iconst_1 ?_
        refine r_goto (pc := 39) (tgt := 43) dX12_write_39 rfl ?_
        obtain ⟨⟨I9, r10⟩, hc11, h⟩ := ob h
        refine r_callV1 (pc := 43) (av := [vI (1 : Int32)]) (S := []) dX12_write_43 (kX12_no hc11) g1 rfl mkX12_308 mwX12_no rfl ⟨Nat.le_of_ble_eq_true rfl, Nat.le_of_ble_eq_true rfl⟩ (Nat.le_of_ble_eq_true rfl) ⟨Nat.le_refl _, Nat.le_refl _⟩ (fun b => b) ?_
        cases h
        exact r_iret dX12_write_46
    · have h := ie h c
      refine r_aload_n (pc := 21) dX12_write_21 rfl 1 rfl ?_
      obtain ⟨a12, ha12, h⟩ := ob h
      refine r_getS (pc := 22) dX12_write_22 fgX12_15 rfl g1 ha12 ?_
      refine r_iload_n (pc := 25) dX12_write_25 rfl 0 rfl ?_
      obtain ⟨g13, h⟩ := gd h
      obtain ⟨g14, h⟩ := gd h
      refine r_baload (pc := 26) dX12_write_26 g13 g14 ?_
      refine r_callS1 (pc := 27) (av := [vI (I a12 (Int32.toNatClampNeg (I a2 (Int32.toNatClampNeg x1))))]) (S := []) dX12_write_27 (kX12_isPageLane rfl) mkX12_783 mwX12_isPageLane rfl ⟨Nat.le_of_ble_eq_true rfl, Nat.le_of_ble_eq_true rfl⟩ (Nat.le_of_ble_eq_true rfl) ⟨Nat.le_refl _, Nat.le_refl _⟩ (fun b => b) ?_
      refine r_ifne (pc := 30) (tgt := 47) dX12_write_30 rfl (fun c => ?_) (fun c => ?_)
      · have h := ie h c
        refine r_aload_n (pc := 47) dX12_write_47 rfl 1 rfl ?_
        refine r_getI (pc := 48) dX12_write_48 fgX12_786 rfl g1 ?_
        refine r_if_eq (pc := 51) (tgt := 57) dX12_write_51 rfl (fun c => ?_) (fun c => ?_)
        · have h := it h c
          refine r_aload_n (pc := 57) dX12_write_57 rfl 1 rfl ?_
          obtain ⟨a15, ha15, h⟩ := ob h
          refine r_getS (pc := 58) dX12_write_58 fgX12_19 rfl g1 ha15 ?_
          refine r_iload_n (pc := 61) dX12_write_61 rfl 0 rfl ?_
          obtain ⟨g16, h⟩ := gd h
          obtain ⟨g17, h⟩ := gd h
          refine r_baload (pc := 62) dX12_write_62 g16 g17 ?_
          refine r_bipush (pc := 63) dX12_write_63 kc_bipush_6 ?_
          refine r_icmp_gt (pc := 65) (tgt := 87) dX12_write_65 rfl (fun c => ?_) (fun c => ?_)
          · have h := it h c
            refine r_bipush (pc := 87) dX12_write_87 kc_bipush_m4 ?_
            cases h
            exact r_iret dX12_write_89
          · have h := ie h c
            refine r_aload_n (pc := 68) dX12_write_68 rfl 1 rfl ?_
            refine r_getI (pc := 69) dX12_write_69 fgX12_789 rfl g1 ?_
            refine r_bipush (pc := 72) dX12_write_72 kc_bipush_20 ?_
            refine r_icmp_eq (pc := 74) (tgt := 87) dX12_write_74 rfl (fun c => ?_) (fun c => ?_)
            · have h := it h c
              refine r_bipush (pc := 87) dX12_write_87 kc_bipush_m4 ?_
              cases h
              exact r_iret dX12_write_89
            · have h := ie h c
              refine r_aload_n (pc := 77) dX12_write_77 rfl 1 rfl ?_
              refine r_getI (pc := 78) dX12_write_78 fgX12_792 rfl g1 ?_
              refine r_ldcw (pc := 81) dX12_write_81 ciX12_795 ?_
              refine r_icmp_ne (pc := 84) (tgt := 90) dX12_write_84 rfl (fun c => ?_) (fun c => ?_)
              · have h := ie h c
                refine r_iconst (pc := 90) dX12_write_90 kc_iconst_0 ?_
                refine r_istore_n (pc := 91) (L' := [(3, vI (0 : Int32)), (2, vI (I a2 (Int32.toNatClampNeg x1))), (0, vR (some t)), (1, vI x1)]) dX12_write_91 rfl (by decide) rfl ?_
                refine r_sub [2, 1, 0] rfl ?_
                exact wX12_write_l92 _ _ _ _ h
              · have h := it h c
                refine r_bipush (pc := 87) dX12_write_87 kc_bipush_m4 ?_
                cases h
                exact r_iret dX12_write_89
        · have h := ie h c
          refine r_bipush (pc := 54) dX12_write_54 kc_bipush_m3 ?_
          cases h
          exact r_iret dX12_write_56
      · have h := it h c
        refine r_aload_n (pc := 33) dX12_write_33 rfl 1 rfl ?_
        refine r_iload_n (pc := 34) dX12_write_34 rfl 0 rfl ?_
        refine r_ifne (pc := 35) (tgt := 42) dX12_write_35 rfl (fun c => ?_) (fun c => ?_)
        · have h := ie h c
          refine r_iconst (pc := 42) dX12_write_42 kc_iconst_4 ?_
          obtain ⟨⟨I78, r79⟩, hc80, h⟩ := ob h
          refine r_callV1 (pc := 43) (av := [vI (4 : Int32)]) (S := []) dX12_write_43 (kX12_no hc80) g1 rfl mkX12_308 mwX12_no rfl ⟨Nat.le_of_ble_eq_true rfl, Nat.le_of_ble_eq_true rfl⟩ (Nat.le_of_ble_eq_true rfl) ⟨Nat.le_refl _, Nat.le_refl _⟩ (fun b => b) ?_
          cases h
          exact r_iret dX12_write_46
        · have h := it h c
          refine r_iconst (pc := 38) dX12_write_38 kc_iconst_1 ?_
          refine r_goto (pc := 39) (tgt := 43) dX12_write_39 rfl ?_
          obtain ⟨⟨I81, r82⟩, hc83, h⟩ := ob h
          refine r_callV1 (pc := 43) (av := [vI (1 : Int32)]) (S := []) dX12_write_43 (kX12_no hc83) g1 rfl mkX12_308 mwX12_no rfl ⟨Nat.le_of_ble_eq_true rfl, Nat.le_of_ble_eq_true rfl⟩ (Nat.le_of_ble_eq_true rfl) ⟨Nat.le_refl _, Nat.le_refl _⟩ (fun b => b) ?_
          cases h
          exact r_iret dX12_write_46
  · have h := it h c
    refine r_bipush (pc := 7) dX12_write_7 kc_bipush_m2 ?_
    cases h
    exact r_iret dX12_write_9
abbrev WX12_power (G : Gx) (l : Launch) (σ0 : Shp) (X1 : Stt) (rv : Option SV) : Stt → Nat → List (Nat × SV) → List SV → Prop := Wm G l yX12_power cX12_power 2 (some .int) (fun _ => True) (rmx 1 22 σ0 X1.1) σ0 (Qmx G σ0 X1 rv)
def fX12_power (σ : Shp) (I : Nat → Nat → Int32) (t : Nat) (x1 : Int32) : Option ((Nat → Nat → Int32) × (Int32)) :=
  if (fX12_in x1 (-1 : Int32) (200 : Int32)) = 0 then
    some (I, (-2 : Int32))
  else
    if kdx σ t = 13 then
    if (I t 131) = 0 then
      let I2 := u2 I t 132 x1
      some (I2, (1 : Int32))
    else
      some (I, (-3 : Int32))
    else none
theorem kX12_power {G : Gx} {l : Launch} {σ : Shp} {I : Nat → Nat → Int32} {J : Nat → Nat → Int64} {D : Nat → Nat → UInt64} {R : Nat → Nat → Option Nat} {t : Nat} {x1 : Int32} {I9 : Nat → Nat → Int32} {r9 : Int32} (h : fX12_power σ I t x1 = some (I9, r9)) : Con G l yX12_power cX12_power 2 (some .int) 1 22 [vR (some t), vI x1] (σ, I, J, D, R) (σ, I9, J, D, R) (some (vI r9)) := by
  unfold fX12_power at h
  refine Con.mk (by decide +kernel) rfl (Nat.le_of_ble_eq_true rfl) ?_
  show WX12_power G l σ (σ, I9, J, D, R) (some (vI r9)) (σ, I, J, D, R) 0 _ []
  refine r_iload_n (pc := 0) dX12_power_0 rfl 1 rfl ?_
  refine r_iconst (pc := 1) dX12_power_1 kc_iconst_m1 ?_
  refine r_sipush (pc := 2) dX12_power_2 kc_sipush_200 ?_
  refine r_callS1 (pc := 5) (av := [vI x1, vI (-1 : Int32), vI (200 : Int32)]) (S := []) dX12_power_5 (kX12_in rfl) mkX12_322 mwX12_in rfl ⟨Nat.le_of_ble_eq_true rfl, Nat.le_of_ble_eq_true rfl⟩ (Nat.le_of_ble_eq_true rfl) ⟨Nat.le_refl _, Nat.le_refl _⟩ (fun b => b) ?_
  refine r_ifne (pc := 8) (tgt := 14) dX12_power_8 rfl (fun c => ?_) (fun c => ?_)
  · have h := ie h c
    refine r_aload_n (pc := 14) dX12_power_14 rfl 0 rfl ?_
    obtain ⟨g1, h⟩ := gd h
    refine r_getI (pc := 15) dX12_power_15 fgX12_786 rfl g1 ?_
    refine r_if_eq (pc := 18) (tgt := 24) dX12_power_18 rfl (fun c => ?_) (fun c => ?_)
    · have h := it h c
      refine r_aload_n (pc := 24) dX12_power_24 rfl 0 rfl ?_
      refine r_iload_n (pc := 25) dX12_power_25 rfl 1 rfl ?_
      refine r_putI (pc := 26) dX12_power_26 fwX12_296 rfl g1 ?_
      refine r_iconst (pc := 29) dX12_power_29 kc_iconst_1 ?_
      cases h
      exact r_iret dX12_power_30
    · have h := ie h c
      refine r_bipush (pc := 21) dX12_power_21 kc_bipush_m3 ?_
      cases h
      exact r_iret dX12_power_23
  · have h := it h c
    refine r_bipush (pc := 11) dX12_power_11 kc_bipush_m2 ?_
    cases h
    exact r_iret dX12_power_13
abbrev WX12_numberOf (G : Gx) (l : Launch) (σ0 : Shp) (X1 : Stt) (rv : Option SV) : Stt → Nat → List (Nat × SV) → List SV → Prop := Wm G l yX12_numberOf cX12_numberOf 2 (some .int) (fun _ => True) (rmx 1 25 σ0 X1.1) σ0 (Qmx G σ0 X1 rv)
def fX12_numberOf (σ : Shp) (I : Nat → Nat → Int32) (R : Nat → Nat → Option Nat) (t : Nat) (x1 : Int32) : Option ((Int32)) :=
  if kdx σ t = 13 then
  ((R t 127) : Option Nat).bind fun a2 =>
  (fX12_wide σ I (some a2) ((64 : Int32) * x1) (4 : Int32)).bind fun r3 =>
  some (Int64.toInt32 r3)
  else none
theorem kX12_numberOf {G : Gx} {l : Launch} {σ : Shp} {I : Nat → Nat → Int32} {J : Nat → Nat → Int64} {D : Nat → Nat → UInt64} {R : Nat → Nat → Option Nat} {t : Nat} {x1 : Int32} {r9 : Int32} (h : fX12_numberOf σ I R t x1 = some r9) : Con G l yX12_numberOf cX12_numberOf 2 (some .int) 1 25 [vR (some t), vI x1] (σ, I, J, D, R) (σ, I, J, D, R) (some (vI r9)) := by
  unfold fX12_numberOf at h
  refine Con.mk (by decide +kernel) rfl (Nat.le_of_ble_eq_true rfl) ?_
  show WX12_numberOf G l σ (σ, I, J, D, R) (some (vI r9)) (σ, I, J, D, R) 0 _ []
  refine r_aload_n (pc := 0) dX12_numberOf_0 rfl 0 rfl ?_
  obtain ⟨g1, h⟩ := gd h
  obtain ⟨a2, ha2, h⟩ := ob h
  refine r_getS (pc := 1) dX12_numberOf_1 fgX12_290 rfl g1 ha2 ?_
  refine r_bipush (pc := 4) dX12_numberOf_4 kc_bipush_64 ?_
  refine r_iload_n (pc := 6) dX12_numberOf_6 rfl 1 rfl ?_
  refine r_imul (pc := 7) dX12_numberOf_7 ?_
  refine r_iconst (pc := 8) dX12_numberOf_8 kc_iconst_4 ?_
  obtain ⟨r3, hc4, h⟩ := ob h
  refine r_callS1 (pc := 9) (av := [vR (some a2), vI ((64 : Int32) * x1), vI (4 : Int32)]) (S := []) dX12_numberOf_9 (kX12_wide hc4) mkX12_804 mwX12_wide rfl ⟨Nat.le_of_ble_eq_true rfl, Nat.le_of_ble_eq_true rfl⟩ (Nat.le_of_ble_eq_true rfl) ⟨Nat.le_refl _, Nat.le_refl _⟩ (fun b => b) ?_
  refine r_l2i (pc := 12) dX12_numberOf_12 ?_
  cases h
  exact r_iret dX12_numberOf_13
abbrev WX12_isWhole (G : Gx) (l : Launch) (σ0 : Shp) (X1 : Stt) (rv : Option SV) : Stt → Nat → List (Nat × SV) → List SV → Prop := Wm G l yX12_isWhole cX12_isWhole 9 (some .boolean) (fun _ => True) (rmx 2 46 σ0 X1.1) σ0 (Qmx G σ0 X1 rv)
def fX12_isWhole_l140  (σ : Shp) (I : Nat → Nat → Int32) (R : Nat → Nat → Option Nat) (t : Nat) : Nat → (Int32) → (Int32) → (Int32) → (Int32) → (Int32) → Option ((Int32))
  | 0, _, _, _, _, _ => none
  | n + 1, x2, x3, x4, x5, x6 =>
    if x4 ≤ x6 then
      if x5 = 0 ∨ x5 = 1 then
      some x5
      else none
    else
      if kdx σ t = 13 then
      ((R t 127) : Option Nat).bind fun a17 =>
      (fX12_wide σ I (some a17) ((x2 + (12 : Int32)) + ((8 : Int32) * x6)) (8 : Int32)).bind fun r18 =>
      if x5 = 0 then
        let v20 := x6 + (1 : Int32)
        fX12_isWhole_l140 σ I R t n x2 x3 x4 (0 : Int32) v20
      else
        if (fX12_fitted x3 r18) = r18 then
          let v22 := x6 + (1 : Int32)
          fX12_isWhole_l140 σ I R t n x2 x3 x4 (1 : Int32) v22
        else
          let v21 := x6 + (1 : Int32)
          fX12_isWhole_l140 σ I R t n x2 x3 x4 (0 : Int32) v21
      else none
theorem wX12_isWhole_l140 {G : Gx} {l : Launch} {σ : Shp} {I : Nat → Nat → Int32} {J : Nat → Nat → Int64} {D : Nat → Nat → UInt64} {R : Nat → Nat → Option Nat} {t : Nat} {r9 : Int32} : ∀ (n : Nat) (x2 : Int32) (x3 : Int32) (x4 : Int32) (x5 : Int32) (x6 : Int32), fX12_isWhole_l140 σ I R t n x2 x3 x4 x5 x6 = some r9 → WX12_isWhole G l σ (σ, I, J, D, R) (some (vI r9)) (σ, I, J, D, R) 140 [(0, vR (some t)), (2, vI x2), (3, vI x3), (4, vI x4), (5, vI x5), (6, vI x6)] [] := by
  intro n
  induction n with
  | zero =>
    intro x2 x3 x4 x5 x6 h
    have h : none = some _ := h
    cases h
  | succ n ih =>
    intro x2 x3 x4 x5 x6 h
    rw [fX12_isWhole_l140] at h
    refine r_iload (pc := 140) dX12_isWhole_140 5 rfl ?_
    refine r_iload (pc := 142) dX12_isWhole_142 3 rfl ?_
    refine r_icmp_ge (pc := 144) (tgt := 198) dX12_isWhole_144 rfl (fun c => ?_) (fun c => ?_)
    · have h := it h c
      refine r_iload (pc := 198) dX12_isWhole_198 4 rfl ?_
      obtain ⟨g15, h⟩ := gd h
      cases h
      exact r_zret dX12_isWhole_200 g15
    · have h := ie h c
      refine r_aload_n (pc := 147) dX12_isWhole_147 rfl 0 rfl ?_
      obtain ⟨g16, h⟩ := gd h
      obtain ⟨a17, ha17, h⟩ := ob h
      refine r_getS (pc := 148) dX12_isWhole_148 fgX12_290 rfl g16 ha17 ?_
      refine r_iload_n (pc := 151) dX12_isWhole_151 rfl 1 rfl ?_
      refine r_bipush (pc := 152) dX12_isWhole_152 kc_bipush_12 ?_
      refine r_iadd (pc := 154) dX12_isWhole_154 ?_
      refine r_bipush (pc := 155) dX12_isWhole_155 kc_bipush_8 ?_
      refine r_iload (pc := 157) dX12_isWhole_157 5 rfl ?_
      refine r_imul (pc := 159) dX12_isWhole_159 ?_
      refine r_iadd (pc := 160) dX12_isWhole_160 ?_
      refine r_bipush (pc := 161) dX12_isWhole_161 kc_bipush_8 ?_
      obtain ⟨r18, hc19, h⟩ := ob h
      refine r_callS1 (pc := 163) (av := [vR (some a17), vI ((x2 + (12 : Int32)) + ((8 : Int32) * x6)), vI (8 : Int32)]) (S := []) dX12_isWhole_163 (kX12_wide hc19) mkX12_804 mwX12_wide rfl ⟨Nat.le_of_ble_eq_true rfl, Nat.le_of_ble_eq_true rfl⟩ (Nat.le_of_ble_eq_true rfl) ⟨Nat.le_refl _, Nat.le_refl _⟩ (fun b => b) ?_
      refine r_lstore (pc := 166) (L' := [(7, vL r18), (0, vR (some t)), (2, vI x2), (3, vI x3), (4, vI x4), (5, vI x5), (6, vI x6)]) dX12_isWhole_166 (by decide) rfl ?_
      refine r_iload (pc := 168) dX12_isWhole_168 5 rfl ?_
      refine r_if_eq (pc := 170) (tgt := 189) dX12_isWhole_170 rfl (fun c => ?_) (fun c => ?_)
      · have h := it h c
        refine r_iconst (pc := 189) dX12_isWhole_189 kc_iconst_0 ?_
        refine r_istore (pc := 190) (L' := [(5, vI (0 : Int32)), (7, vL r18), (0, vR (some t)), (2, vI x2), (3, vI x3), (4, vI x4), (6, vI x6)]) dX12_isWhole_190 (by decide) rfl ?_
        refine r_iinc (pc := 192) (v := (x6 + (1 : Int32))) (L' := [(6, vI (x6 + (1 : Int32))), (5, vI (0 : Int32)), (7, vL r18), (0, vR (some t)), (2, vI x2), (3, vI x3), (4, vI x4)]) dX12_isWhole_192 6 rfl (kc_inc_1 _) (by decide) rfl ?_
        refine r_goto (pc := 195) (tgt := 140) dX12_isWhole_195 rfl ?_
        refine r_sub [3, 4, 5, 6, 1, 0] rfl ?_
        exact ih _ _ _ _ _ h
      · have h := ie h c
        refine r_iload_n (pc := 173) dX12_isWhole_173 rfl 3 rfl ?_
        refine r_lload (pc := 174) dX12_isWhole_174 0 rfl ?_
        refine r_callS1 (pc := 176) (av := [vI x3, vL r18]) (S := []) dX12_isWhole_176 (kX12_fitted rfl) mkX12_377 mwX12_fitted rfl ⟨Nat.le_of_ble_eq_true rfl, Nat.le_of_ble_eq_true rfl⟩ (Nat.le_of_ble_eq_true rfl) ⟨Nat.le_refl _, Nat.le_refl _⟩ (fun b => b) ?_
        refine r_lload (pc := 179) dX12_isWhole_179 0 rfl ?_
        refine r_lcmp (pc := 181) dX12_isWhole_181 ?_
        refine r_ifne (pc := 182) (tgt := 189) dX12_isWhole_182 rfl (fun c => ?_) (fun c => ?_)
        · have h := ie h (fun q => c (lgc_eq.mpr q))
          refine r_iconst (pc := 189) dX12_isWhole_189 kc_iconst_0 ?_
          refine r_istore (pc := 190) (L' := [(5, vI (0 : Int32)), (7, vL r18), (0, vR (some t)), (2, vI x2), (3, vI x3), (4, vI x4), (6, vI x6)]) dX12_isWhole_190 (by decide) rfl ?_
          refine r_iinc (pc := 192) (v := (x6 + (1 : Int32))) (L' := [(6, vI (x6 + (1 : Int32))), (5, vI (0 : Int32)), (7, vL r18), (0, vR (some t)), (2, vI x2), (3, vI x3), (4, vI x4)]) dX12_isWhole_192 6 rfl (kc_inc_1 _) (by decide) rfl ?_
          refine r_goto (pc := 195) (tgt := 140) dX12_isWhole_195 rfl ?_
          refine r_sub [3, 4, 5, 6, 1, 0] rfl ?_
          exact ih _ _ _ _ _ h
        · have h := it h (lgc_eq.mp c)
          refine r_iconst (pc := 185) dX12_isWhole_185 kc_iconst_1 ?_
          refine r_goto (pc := 186) (tgt := 190) dX12_isWhole_186 rfl ?_
          refine r_istore (pc := 190) (L' := [(5, vI (1 : Int32)), (7, vL r18), (0, vR (some t)), (2, vI x2), (3, vI x3), (4, vI x4), (6, vI x6)]) dX12_isWhole_190 (by decide) rfl ?_
          refine r_iinc (pc := 192) (v := (x6 + (1 : Int32))) (L' := [(6, vI (x6 + (1 : Int32))), (5, vI (1 : Int32)), (7, vL r18), (0, vR (some t)), (2, vI x2), (3, vI x3), (4, vI x4)]) dX12_isWhole_192 6 rfl (kc_inc_1 _) (by decide) rfl ?_
          refine r_goto (pc := 195) (tgt := 140) dX12_isWhole_195 rfl ?_
          refine r_sub [3, 4, 5, 6, 1, 0] rfl ?_
          exact ih _ _ _ _ _ h
def fX12_isWhole_l80  (σ : Shp) (I : Nat → Nat → Int32) (R : Nat → Nat → Option Nat) (t : Nat) : Nat → (Int32) → (Int32) → (Int32) → (Int32) → (Int32) → Option ((Int32))
  | 0, _, _, _, _, _ => none
  | n + 1, x2, x3, x4, x5, x6 =>
    if (60 : Int32) ≤ x6 then
      fX12_isWhole_l140 σ I R t FUx x2 x3 x4 x5 (0 : Int32)
    else
      if x5 = 0 then
        let v23 := x6 + (1 : Int32)
        fX12_isWhole_l80 σ I R t n x2 x3 x4 (0 : Int32) v23
      else
        if kdx σ t = 13 then
        ((R t 127) : Option Nat).bind fun a25 =>
        if kdx σ a25 = 20 then
        if ¬ ((x2 + x6) < 0 ∨ lnx σ a25 ≤ Int32.toNatClampNeg (x2 + x6)) then
        if (I a25 (Int32.toNatClampNeg (x2 + x6))) = 0 then
          let v28 := x6 + (1 : Int32)
          fX12_isWhole_l80 σ I R t n x2 x3 x4 (1 : Int32) v28
        else
          if x6 < (12 : Int32) then
            let v29 := x6 + (1 : Int32)
            fX12_isWhole_l80 σ I R t n x2 x3 x4 (0 : Int32) v29
          else
            if ((12 : Int32) + ((8 : Int32) * x4)) ≤ x6 then
              let v30 := x6 + (1 : Int32)
              fX12_isWhole_l80 σ I R t n x2 x3 x4 (0 : Int32) v30
            else
              let v31 := x6 + (1 : Int32)
              fX12_isWhole_l80 σ I R t n x2 x3 x4 (1 : Int32) v31
        else none
        else none
        else none
theorem wX12_isWhole_l80 {G : Gx} {l : Launch} {σ : Shp} {I : Nat → Nat → Int32} {J : Nat → Nat → Int64} {D : Nat → Nat → UInt64} {R : Nat → Nat → Option Nat} {t : Nat} {r9 : Int32} : ∀ (n : Nat) (x2 : Int32) (x3 : Int32) (x4 : Int32) (x5 : Int32) (x6 : Int32), fX12_isWhole_l80 σ I R t n x2 x3 x4 x5 x6 = some r9 → WX12_isWhole G l σ (σ, I, J, D, R) (some (vI r9)) (σ, I, J, D, R) 80 [(0, vR (some t)), (2, vI x2), (3, vI x3), (4, vI x4), (5, vI x5), (6, vI x6)] [] := by
  intro n
  induction n with
  | zero =>
    intro x2 x3 x4 x5 x6 h
    have h : none = some _ := h
    cases h
  | succ n ih =>
    intro x2 x3 x4 x5 x6 h
    rw [fX12_isWhole_l80] at h
    refine r_iload (pc := 80) dX12_isWhole_80 5 rfl ?_
    refine r_bipush (pc := 82) dX12_isWhole_82 kc_bipush_60 ?_
    refine r_icmp_ge (pc := 84) (tgt := 137) dX12_isWhole_84 rfl (fun c => ?_) (fun c => ?_)
    · have h := it h c
      refine r_iconst (pc := 137) dX12_isWhole_137 kc_iconst_0 ?_
      refine r_istore (pc := 138) (L' := [(6, vI (0 : Int32)), (0, vR (some t)), (2, vI x2), (3, vI x3), (4, vI x4), (5, vI x5)]) dX12_isWhole_138 (by decide) rfl ?_
      refine r_sub [1, 2, 3, 4, 5, 0] rfl ?_
      exact wX12_isWhole_l140 _ _ _ _ _ _ h
    · have h := ie h c
      refine r_iload (pc := 87) dX12_isWhole_87 4 rfl ?_
      refine r_if_eq (pc := 89) (tgt := 128) dX12_isWhole_89 rfl (fun c => ?_) (fun c => ?_)
      · have h := it h c
        refine r_iconst (pc := 128) dX12_isWhole_128 kc_iconst_0 ?_
        refine r_istore (pc := 129) (L' := [(5, vI (0 : Int32)), (0, vR (some t)), (2, vI x2), (3, vI x3), (4, vI x4), (6, vI x6)]) dX12_isWhole_129 (by decide) rfl ?_
        refine r_iinc (pc := 131) (v := (x6 + (1 : Int32))) (L' := [(6, vI (x6 + (1 : Int32))), (5, vI (0 : Int32)), (0, vR (some t)), (2, vI x2), (3, vI x3), (4, vI x4)]) dX12_isWhole_131 5 rfl (kc_inc_1 _) (by decide) rfl ?_
        refine r_goto (pc := 134) (tgt := 80) dX12_isWhole_134 rfl ?_
        refine r_sub [2, 3, 4, 5, 1, 0] rfl ?_
        exact ih _ _ _ _ _ h
      · have h := ie h c
        refine r_aload_n (pc := 92) dX12_isWhole_92 rfl 0 rfl ?_
        obtain ⟨g24, h⟩ := gd h
        obtain ⟨a25, ha25, h⟩ := ob h
        refine r_getS (pc := 93) dX12_isWhole_93 fgX12_290 rfl g24 ha25 ?_
        refine r_iload_n (pc := 96) dX12_isWhole_96 rfl 1 rfl ?_
        refine r_iload (pc := 97) dX12_isWhole_97 5 rfl ?_
        refine r_iadd (pc := 99) dX12_isWhole_99 ?_
        obtain ⟨g26, h⟩ := gd h
        obtain ⟨g27, h⟩ := gd h
        refine r_iaload (pc := 100) dX12_isWhole_100 g26 g27 ?_
        refine r_if_eq (pc := 101) (tgt := 124) dX12_isWhole_101 rfl (fun c => ?_) (fun c => ?_)
        · have h := it h c
          refine r_iconst (pc := 124) dX12_isWhole_124 kc_iconst_1 ?_
          refine r_goto (pc := 125) (tgt := 129) dX12_isWhole_125 rfl ?_
          refine r_istore (pc := 129) (L' := [(5, vI (1 : Int32)), (0, vR (some t)), (2, vI x2), (3, vI x3), (4, vI x4), (6, vI x6)]) dX12_isWhole_129 (by decide) rfl ?_
          refine r_iinc (pc := 131) (v := (x6 + (1 : Int32))) (L' := [(6, vI (x6 + (1 : Int32))), (5, vI (1 : Int32)), (0, vR (some t)), (2, vI x2), (3, vI x3), (4, vI x4)]) dX12_isWhole_131 5 rfl (kc_inc_1 _) (by decide) rfl ?_
          refine r_goto (pc := 134) (tgt := 80) dX12_isWhole_134 rfl ?_
          refine r_sub [2, 3, 4, 5, 1, 0] rfl ?_
          exact ih _ _ _ _ _ h
        · have h := ie h c
          refine r_iload (pc := 104) dX12_isWhole_104 5 rfl ?_
          refine r_bipush (pc := 106) dX12_isWhole_106 kc_bipush_12 ?_
          refine r_icmp_lt (pc := 108) (tgt := 128) dX12_isWhole_108 rfl (fun c => ?_) (fun c => ?_)
          · have h := it h c
            refine r_iconst (pc := 128) dX12_isWhole_128 kc_iconst_0 ?_
            refine r_istore (pc := 129) (L' := [(5, vI (0 : Int32)), (0, vR (some t)), (2, vI x2), (3, vI x3), (4, vI x4), (6, vI x6)]) dX12_isWhole_129 (by decide) rfl ?_
            refine r_iinc (pc := 131) (v := (x6 + (1 : Int32))) (L' := [(6, vI (x6 + (1 : Int32))), (5, vI (0 : Int32)), (0, vR (some t)), (2, vI x2), (3, vI x3), (4, vI x4)]) dX12_isWhole_131 5 rfl (kc_inc_1 _) (by decide) rfl ?_
            refine r_goto (pc := 134) (tgt := 80) dX12_isWhole_134 rfl ?_
            refine r_sub [2, 3, 4, 5, 1, 0] rfl ?_
            exact ih _ _ _ _ _ h
          · have h := ie h c
            refine r_iload (pc := 111) dX12_isWhole_111 5 rfl ?_
            refine r_bipush (pc := 113) dX12_isWhole_113 kc_bipush_12 ?_
            refine r_bipush (pc := 115) dX12_isWhole_115 kc_bipush_8 ?_
            refine r_iload (pc := 117) dX12_isWhole_117 3 rfl ?_
            refine r_imul (pc := 119) dX12_isWhole_119 ?_
            refine r_iadd (pc := 120) dX12_isWhole_120 ?_
            refine r_icmp_ge (pc := 121) (tgt := 128) dX12_isWhole_121 rfl (fun c => ?_) (fun c => ?_)
            · have h := it h c
              refine r_iconst (pc := 128) dX12_isWhole_128 kc_iconst_0 ?_
              refine r_istore (pc := 129) (L' := [(5, vI (0 : Int32)), (0, vR (some t)), (2, vI x2), (3, vI x3), (4, vI x4), (6, vI x6)]) dX12_isWhole_129 (by decide) rfl ?_
              refine r_iinc (pc := 131) (v := (x6 + (1 : Int32))) (L' := [(6, vI (x6 + (1 : Int32))), (5, vI (0 : Int32)), (0, vR (some t)), (2, vI x2), (3, vI x3), (4, vI x4)]) dX12_isWhole_131 5 rfl (kc_inc_1 _) (by decide) rfl ?_
              refine r_goto (pc := 134) (tgt := 80) dX12_isWhole_134 rfl ?_
              refine r_sub [2, 3, 4, 5, 1, 0] rfl ?_
              exact ih _ _ _ _ _ h
            · have h := ie h c
              refine r_iconst (pc := 124) dX12_isWhole_124 kc_iconst_1 ?_
              refine r_goto (pc := 125) (tgt := 129) dX12_isWhole_125 rfl ?_
              refine r_istore (pc := 129) (L' := [(5, vI (1 : Int32)), (0, vR (some t)), (2, vI x2), (3, vI x3), (4, vI x4), (6, vI x6)]) dX12_isWhole_129 (by decide) rfl ?_
              refine r_iinc (pc := 131) (v := (x6 + (1 : Int32))) (L' := [(6, vI (x6 + (1 : Int32))), (5, vI (1 : Int32)), (0, vR (some t)), (2, vI x2), (3, vI x3), (4, vI x4)]) dX12_isWhole_131 5 rfl (kc_inc_1 _) (by decide) rfl ?_
              refine r_goto (pc := 134) (tgt := 80) dX12_isWhole_134 rfl ?_
              refine r_sub [2, 3, 4, 5, 1, 0] rfl ?_
              exact ih _ _ _ _ _ h
def fX12_isWhole (σ : Shp) (I : Nat → Nat → Int32) (R : Nat → Nat → Option Nat) (t : Nat) (x1 : Int32) : Option ((Int32)) :=
  let v1 := ((64 : Int32) * x1)
  if kdx σ t = 13 then
  ((R t 127) : Option Nat).bind fun a3 =>
  if kdx σ a3 = 20 then
  if ¬ ((v1 + (4 : Int32)) < 0 ∨ lnx σ a3 ≤ Int32.toNatClampNeg (v1 + (4 : Int32))) then
  let v6 := (I a3 (Int32.toNatClampNeg (v1 + (4 : Int32))))
  if ¬ ((v1 + (5 : Int32)) < 0 ∨ lnx σ a3 ≤ Int32.toNatClampNeg (v1 + (5 : Int32))) then
  let v8 := (I a3 (Int32.toNatClampNeg (v1 + (5 : Int32))))
  (fX12_numberOf σ I R t x1).bind fun r9 =>
  if r9 < (1 : Int32) then
    some (0 : Int32)
  else
    if (fX12_isPageLane v6) = 0 then
      some (0 : Int32)
    else
      if (6 : Int32) < v8 then
        some (0 : Int32)
      else
        (fX12_wide σ I (some a3) (v1 + (60 : Int32)) (4 : Int32)).bind fun r11 =>
        (fX12_sumOf σ I (some a3) v1).bind fun r13 =>
        if (Int64.toInt32 r11) = r13 then
          fX12_isWhole_l80 σ I R t FUx v1 v6 v8 (1 : Int32) (6 : Int32)
        else
          some (0 : Int32)
  else none
  else none
  else none
  else none
theorem kX12_isWhole {G : Gx} {l : Launch} {σ : Shp} {I : Nat → Nat → Int32} {J : Nat → Nat → Int64} {D : Nat → Nat → UInt64} {R : Nat → Nat → Option Nat} {t : Nat} {x1 : Int32} {r9 : Int32} (h : fX12_isWhole σ I R t x1 = some r9) : Con G l yX12_isWhole cX12_isWhole 9 (some .boolean) 2 46 [vR (some t), vI x1] (σ, I, J, D, R) (σ, I, J, D, R) (some (vI r9)) := by
  unfold fX12_isWhole at h
  refine Con.mk (by decide +kernel) rfl (Nat.le_of_ble_eq_true rfl) ?_
  show WX12_isWhole G l σ (σ, I, J, D, R) (some (vI r9)) (σ, I, J, D, R) 0 _ []
  refine r_bipush (pc := 0) dX12_isWhole_0 kc_bipush_64 ?_
  refine r_iload_n (pc := 2) dX12_isWhole_2 rfl 1 rfl ?_
  refine r_imul (pc := 3) dX12_isWhole_3 ?_
  refine r_istore_n (pc := 4) (L' := [(2, vI ((64 : Int32) * x1)), (0, vR (some t)), (1, vI x1)]) dX12_isWhole_4 rfl (by decide) rfl ?_
  refine r_aload_n (pc := 5) dX12_isWhole_5 rfl 1 rfl ?_
  obtain ⟨g2, h⟩ := gd h
  obtain ⟨a3, ha3, h⟩ := ob h
  refine r_getS (pc := 6) dX12_isWhole_6 fgX12_290 rfl g2 ha3 ?_
  refine r_iload_n (pc := 9) dX12_isWhole_9 rfl 0 rfl ?_
  refine r_iconst (pc := 10) dX12_isWhole_10 kc_iconst_4 ?_
  refine r_iadd (pc := 11) dX12_isWhole_11 ?_
  obtain ⟨g4, h⟩ := gd h
  obtain ⟨g5, h⟩ := gd h
  refine r_iaload (pc := 12) dX12_isWhole_12 g4 g5 ?_
  refine r_istore_n (pc := 13) (L' := [(3, vI (I a3 (Int32.toNatClampNeg (((64 : Int32) * x1) + (4 : Int32))))), (2, vI ((64 : Int32) * x1)), (0, vR (some t)), (1, vI x1)]) dX12_isWhole_13 rfl (by decide) rfl ?_
  refine r_aload_n (pc := 14) dX12_isWhole_14 rfl 2 rfl ?_
  refine r_getS (pc := 15) dX12_isWhole_15 fgX12_290 rfl g2 ha3 ?_
  refine r_iload_n (pc := 18) dX12_isWhole_18 rfl 1 rfl ?_
  refine r_iconst (pc := 19) dX12_isWhole_19 kc_iconst_5 ?_
  refine r_iadd (pc := 20) dX12_isWhole_20 ?_
  obtain ⟨g7, h⟩ := gd h
  refine r_iaload (pc := 21) dX12_isWhole_21 g4 g7 ?_
  refine r_istore (pc := 22) (L' := [(4, vI (I a3 (Int32.toNatClampNeg (((64 : Int32) * x1) + (5 : Int32))))), (3, vI (I a3 (Int32.toNatClampNeg (((64 : Int32) * x1) + (4 : Int32))))), (2, vI ((64 : Int32) * x1)), (0, vR (some t)), (1, vI x1)]) dX12_isWhole_22 (by decide) rfl ?_
  refine r_aload_n (pc := 24) dX12_isWhole_24 rfl 3 rfl ?_
  refine r_iload_n (pc := 25) dX12_isWhole_25 rfl 4 rfl ?_
  obtain ⟨r9, hc10, h⟩ := ob h
  refine r_callV1 (pc := 26) (av := [vI x1]) (S := []) dX12_isWhole_26 (kX12_numberOf hc10) g2 rfl mkX12_808 mwX12_numberOf rfl ⟨Nat.le_of_ble_eq_true rfl, Nat.le_of_ble_eq_true rfl⟩ (Nat.le_of_ble_eq_true rfl) ⟨Nat.le_refl _, Nat.le_refl _⟩ (fun b => b) ?_
  refine r_iconst (pc := 29) dX12_isWhole_29 kc_iconst_1 ?_
  refine r_icmp_lt (pc := 30) (tgt := 71) dX12_isWhole_30 rfl (fun c => ?_) (fun c => ?_)
  · have h := it h c
    refine r_iconst (pc := 71) dX12_isWhole_71 kc_iconst_0 ?_
    cases h
    exact r_zret dX12_isWhole_72 (Or.inl rfl)
  · have h := ie h c
    refine r_iload_n (pc := 33) dX12_isWhole_33 rfl 1 rfl ?_
    refine r_callS1 (pc := 34) (av := [vI (I a3 (Int32.toNatClampNeg (((64 : Int32) * x1) + (4 : Int32))))]) (S := []) dX12_isWhole_34 (kX12_isPageLane rfl) mkX12_783 mwX12_isPageLane rfl ⟨Nat.le_of_ble_eq_true rfl, Nat.le_of_ble_eq_true rfl⟩ (Nat.le_of_ble_eq_true rfl) ⟨Nat.le_refl _, Nat.le_refl _⟩ (fun b => b) ?_
    refine r_if_eq (pc := 37) (tgt := 71) dX12_isWhole_37 rfl (fun c => ?_) (fun c => ?_)
    · have h := it h c
      refine r_iconst (pc := 71) dX12_isWhole_71 kc_iconst_0 ?_
      cases h
      exact r_zret dX12_isWhole_72 (Or.inl rfl)
    · have h := ie h c
      refine r_iload (pc := 40) dX12_isWhole_40 0 rfl ?_
      refine r_bipush (pc := 42) dX12_isWhole_42 kc_bipush_6 ?_
      refine r_icmp_gt (pc := 44) (tgt := 71) dX12_isWhole_44 rfl (fun c => ?_) (fun c => ?_)
      · have h := it h c
        refine r_iconst (pc := 71) dX12_isWhole_71 kc_iconst_0 ?_
        cases h
        exact r_zret dX12_isWhole_72 (Or.inl rfl)
      · have h := ie h c
        refine r_aload_n (pc := 47) dX12_isWhole_47 rfl 3 rfl ?_
        refine r_getS (pc := 48) dX12_isWhole_48 fgX12_290 rfl g2 ha3 ?_
        refine r_iload_n (pc := 51) dX12_isWhole_51 rfl 2 rfl ?_
        refine r_bipush (pc := 52) dX12_isWhole_52 kc_bipush_60 ?_
        refine r_iadd (pc := 54) dX12_isWhole_54 ?_
        refine r_iconst (pc := 55) dX12_isWhole_55 kc_iconst_4 ?_
        obtain ⟨r11, hc12, h⟩ := ob h
        refine r_callS1 (pc := 56) (av := [vR (some a3), vI (((64 : Int32) * x1) + (60 : Int32)), vI (4 : Int32)]) (S := []) dX12_isWhole_56 (kX12_wide hc12) mkX12_804 mwX12_wide rfl ⟨Nat.le_of_ble_eq_true rfl, Nat.le_of_ble_eq_true rfl⟩ (Nat.le_of_ble_eq_true rfl) ⟨Nat.le_refl _, Nat.le_refl _⟩ (fun b => b) ?_
        refine r_l2i (pc := 59) dX12_isWhole_59 ?_
        refine r_aload_n (pc := 60) dX12_isWhole_60 rfl 3 rfl ?_
        refine r_getS (pc := 61) dX12_isWhole_61 fgX12_290 rfl g2 ha3 ?_
        refine r_iload_n (pc := 64) dX12_isWhole_64 rfl 2 rfl ?_
        obtain ⟨r13, hc14, h⟩ := ob h
        refine r_callS1 (pc := 65) (av := [vR (some a3), vI ((64 : Int32) * x1)]) (S := [vI (Int64.toInt32 r11)]) dX12_isWhole_65 (kX12_sumOf hc14) mkX12_800 mwX12_sumOf rfl ⟨Nat.le_of_ble_eq_true rfl, Nat.le_of_ble_eq_true rfl⟩ (Nat.le_of_ble_eq_true rfl) ⟨Nat.le_refl _, Nat.le_refl _⟩ (fun b => b) ?_
        refine r_icmp_eq (pc := 68) (tgt := 73) dX12_isWhole_68 rfl (fun c => ?_) (fun c => ?_)
        · have h := it h c
          refine r_iconst (pc := 73) dX12_isWhole_73 kc_iconst_1 ?_
          refine r_istore (pc := 74) (L' := [(5, vI (1 : Int32)), (4, vI (I a3 (Int32.toNatClampNeg (((64 : Int32) * x1) + (5 : Int32))))), (3, vI (I a3 (Int32.toNatClampNeg (((64 : Int32) * x1) + (4 : Int32))))), (2, vI ((64 : Int32) * x1)), (0, vR (some t)), (1, vI x1)]) dX12_isWhole_74 (by decide) rfl ?_
          refine r_bipush (pc := 76) dX12_isWhole_76 kc_bipush_6 ?_
          refine r_istore (pc := 78) (L' := [(6, vI (6 : Int32)), (5, vI (1 : Int32)), (4, vI (I a3 (Int32.toNatClampNeg (((64 : Int32) * x1) + (5 : Int32))))), (3, vI (I a3 (Int32.toNatClampNeg (((64 : Int32) * x1) + (4 : Int32))))), (2, vI ((64 : Int32) * x1)), (0, vR (some t)), (1, vI x1)]) dX12_isWhole_78 (by decide) rfl ?_
          refine r_sub [5, 4, 3, 2, 1, 0] rfl ?_
          exact wX12_isWhole_l80 _ _ _ _ _ _ h
        · have h := ie h c
          refine r_iconst (pc := 71) dX12_isWhole_71 kc_iconst_0 ?_
          cases h
          exact r_zret dX12_isWhole_72 (Or.inl rfl)
abbrev WX12_pageOf (G : Gx) (l : Launch) (σ0 : Shp) (X1 : Stt) (rv : Option SV) : Stt → Nat → List (Nat × SV) → List SV → Prop := Wm G l yX12_pageOf cX12_pageOf 3 (some .int) (fun _ => True) (rmx 3 74 σ0 X1.1) σ0 (Qmx G σ0 X1 rv)
def fX12_pageOf_l2  (σ : Shp) (I : Nat → Nat → Int32) (R : Nat → Nat → Option Nat) (t : Nat) : Nat → (Int32) → (Int32) → Option ((Int32))
  | 0, _, _ => none
  | n + 1, x1, x2 =>
    if (20 : Int32) ≤ x2 then
      some (-1 : Int32)
    else
      if kdx σ t = 13 then
      (fX12_isWhole σ I R t x2).bind fun r2 =>
      if r2 = 0 then
        let v4 := x2 + (1 : Int32)
        fX12_pageOf_l2 σ I R t n x1 v4
      else
        (fX12_numberOf σ I R t x2).bind fun r5 =>
        if r5 = x1 then
          some x2
        else
          let v7 := x2 + (1 : Int32)
          fX12_pageOf_l2 σ I R t n x1 v7
      else none
theorem wX12_pageOf_l2 {G : Gx} {l : Launch} {σ : Shp} {I : Nat → Nat → Int32} {J : Nat → Nat → Int64} {D : Nat → Nat → UInt64} {R : Nat → Nat → Option Nat} {t : Nat} {r9 : Int32} : ∀ (n : Nat) (x1 : Int32) (x2 : Int32), fX12_pageOf_l2 σ I R t n x1 x2 = some r9 → WX12_pageOf G l σ (σ, I, J, D, R) (some (vI r9)) (σ, I, J, D, R) 2 [(0, vR (some t)), (1, vI x1), (2, vI x2)] [] := by
  intro n
  induction n with
  | zero =>
    intro x1 x2 h
    have h : none = some _ := h
    cases h
  | succ n ih =>
    intro x1 x2 h
    rw [fX12_pageOf_l2] at h
    refine r_iload_n (pc := 2) dX12_pageOf_2 rfl 2 rfl ?_
    refine r_bipush (pc := 3) dX12_pageOf_3 kc_bipush_20 ?_
    refine r_icmp_ge (pc := 5) (tgt := 33) dX12_pageOf_5 rfl (fun c => ?_) (fun c => ?_)
    · have h := it h c
      refine r_iconst (pc := 33) dX12_pageOf_33 kc_iconst_m1 ?_
      cases h
      exact r_iret dX12_pageOf_34
    · have h := ie h c
      refine r_aload_n (pc := 8) dX12_pageOf_8 rfl 0 rfl ?_
      refine r_iload_n (pc := 9) dX12_pageOf_9 rfl 2 rfl ?_
      obtain ⟨g1, h⟩ := gd h
      obtain ⟨r2, hc3, h⟩ := ob h
      refine r_callV1 (pc := 10) (av := [vI x2]) (S := []) dX12_pageOf_10 (kX12_isWhole hc3) g1 rfl mkX12_811 mwX12_isWhole rfl ⟨Nat.le_of_ble_eq_true rfl, Nat.le_of_ble_eq_true rfl⟩ (Nat.le_of_ble_eq_true rfl) ⟨Nat.le_refl _, Nat.le_refl _⟩ (fun b => b) ?_
      refine r_if_eq (pc := 13) (tgt := 27) dX12_pageOf_13 rfl (fun c => ?_) (fun c => ?_)
      · have h := it h c
        refine r_iinc (pc := 27) (v := (x2 + (1 : Int32))) (L' := [(2, vI (x2 + (1 : Int32))), (0, vR (some t)), (1, vI x1)]) dX12_pageOf_27 2 rfl (kc_inc_1 _) (by decide) rfl ?_
        refine r_goto (pc := 30) (tgt := 2) dX12_pageOf_30 rfl ?_
        refine r_sub [1, 2, 0] rfl ?_
        exact ih _ _ h
      · have h := ie h c
        refine r_aload_n (pc := 16) dX12_pageOf_16 rfl 0 rfl ?_
        refine r_iload_n (pc := 17) dX12_pageOf_17 rfl 2 rfl ?_
        obtain ⟨r5, hc6, h⟩ := ob h
        refine r_callV1 (pc := 18) (av := [vI x2]) (S := []) dX12_pageOf_18 (kX12_numberOf hc6) g1 rfl mkX12_808 mwX12_numberOf rfl ⟨Nat.le_of_ble_eq_true rfl, Nat.le_of_ble_eq_true rfl⟩ (Nat.le_of_ble_eq_true rfl) ⟨Nat.le_refl _, Nat.le_refl _⟩ (fun b => b) ?_
        refine r_iload_n (pc := 21) dX12_pageOf_21 rfl 1 rfl ?_
        refine r_icmp_ne (pc := 22) (tgt := 27) dX12_pageOf_22 rfl (fun c => ?_) (fun c => ?_)
        · have h := ie h c
          refine r_iinc (pc := 27) (v := (x2 + (1 : Int32))) (L' := [(2, vI (x2 + (1 : Int32))), (0, vR (some t)), (1, vI x1)]) dX12_pageOf_27 2 rfl (kc_inc_1 _) (by decide) rfl ?_
          refine r_goto (pc := 30) (tgt := 2) dX12_pageOf_30 rfl ?_
          refine r_sub [1, 2, 0] rfl ?_
          exact ih _ _ h
        · have h := it h c
          refine r_iload_n (pc := 25) dX12_pageOf_25 rfl 2 rfl ?_
          cases h
          exact r_iret dX12_pageOf_26
def fX12_pageOf (σ : Shp) (I : Nat → Nat → Int32) (R : Nat → Nat → Option Nat) (t : Nat) (x1 : Int32) : Option ((Int32)) :=
  fX12_pageOf_l2 σ I R t FUx x1 (0 : Int32)
theorem kX12_pageOf {G : Gx} {l : Launch} {σ : Shp} {I : Nat → Nat → Int32} {J : Nat → Nat → Int64} {D : Nat → Nat → UInt64} {R : Nat → Nat → Option Nat} {t : Nat} {x1 : Int32} {r9 : Int32} (h : fX12_pageOf σ I R t x1 = some r9) : Con G l yX12_pageOf cX12_pageOf 3 (some .int) 3 74 [vR (some t), vI x1] (σ, I, J, D, R) (σ, I, J, D, R) (some (vI r9)) := by
  unfold fX12_pageOf at h
  refine Con.mk (by decide +kernel) rfl (Nat.le_of_ble_eq_true rfl) ?_
  show WX12_pageOf G l σ (σ, I, J, D, R) (some (vI r9)) (σ, I, J, D, R) 0 _ []
  refine r_iconst (pc := 0) dX12_pageOf_0 kc_iconst_0 ?_
  refine r_istore_n (pc := 1) (L' := [(2, vI (0 : Int32)), (0, vR (some t)), (1, vI x1)]) dX12_pageOf_1 rfl (by decide) rfl ?_
  refine r_sub [1, 2, 0] rfl ?_
  exact wX12_pageOf_l2 _ _ _ h
abbrev WX12_above (G : Gx) (l : Launch) (σ0 : Shp) (X1 : Stt) (rv : Option SV) : Stt → Nat → List (Nat × SV) → List SV → Prop := Wm G l yX12_above cX12_above 5 (some .int) (fun _ => True) (rmx 3 74 σ0 X1.1) σ0 (Qmx G σ0 X1 rv)
def fX12_above_b27 (q4 : (Int32) → (Int32) → (Int32) → (Option ((Int32)))) (σ : Shp) (I : Nat → Nat → Int32) (R : Nat → Nat → Option Nat) (t : Nat) (x1 : Int32) (x2 : Int32) (x3 : Int32) (s0 : Int32) : Option ((Int32)) :=
  if s0 ≤ x1 then
    let v4 := x3 + (1 : Int32)
    q4 x1 x2 v4
  else
    if x2 = 0 then
      let v5 := x3 + (1 : Int32)
      q4 x1 s0 v5
    else
      if x2 ≤ s0 then
        let v6 := x3 + (1 : Int32)
        q4 x1 x2 v6
      else
        let v7 := x3 + (1 : Int32)
        q4 x1 s0 v7
theorem wX12_above_b27 {G : Gx} {l : Launch} {σ : Shp} {I : Nat → Nat → Int32} {J : Nat → Nat → Int64} {D : Nat → Nat → UInt64} {R : Nat → Nat → Option Nat} {t : Nat} {r9 : Int32} {q4 : (Int32) → (Int32) → (Int32) → (Option ((Int32)))} {x1 : Int32} {x2 : Int32} {x3 : Int32} {s0 : Int32} (hq4 : ∀ (x1 : Int32) (x2 : Int32) (x3 : Int32), q4 x1 x2 x3 = some r9 → WX12_above G l σ (σ, I, J, D, R) (some (vI r9)) (σ, I, J, D, R) 4 [(0, vR (some t)), (1, vI x1), (2, vI x2), (3, vI x3)] []) (h : fX12_above_b27 q4 σ I R t x1 x2 x3 s0 = some r9) : WX12_above G l σ (σ, I, J, D, R) (some (vI r9)) (σ, I, J, D, R) 27 [(0, vR (some t)), (1, vI x1), (2, vI x2), (3, vI x3)] [vI s0] := by
  unfold fX12_above_b27 at h
  refine r_istore (pc := 27) (L' := [(4, vI s0), (0, vR (some t)), (1, vI x1), (2, vI x2), (3, vI x3)]) dX12_above_27 (by decide) rfl ?_
  refine r_iload (pc := 29) dX12_above_29 0 rfl ?_
  refine r_iload_n (pc := 31) dX12_above_31 rfl 2 rfl ?_
  refine r_icmp_le (pc := 32) (tgt := 50) dX12_above_32 rfl (fun c => ?_) (fun c => ?_)
  · have h := it h c
    refine r_iload_n (pc := 50) dX12_above_50 rfl 3 rfl ?_
    refine r_istore_n (pc := 51) (L' := [(2, vI x2), (4, vI s0), (0, vR (some t)), (1, vI x1), (3, vI x3)]) dX12_above_51 rfl (by decide) rfl ?_
    refine r_iinc (pc := 52) (v := (x3 + (1 : Int32))) (L' := [(3, vI (x3 + (1 : Int32))), (2, vI x2), (4, vI s0), (0, vR (some t)), (1, vI x1)]) dX12_above_52 4 rfl (kc_inc_1 _) (by decide) rfl ?_
    refine r_goto (pc := 55) (tgt := 4) dX12_above_55 rfl ?_
    refine r_sub [3, 4, 1, 0] rfl ?_
    exact hq4 _ _ _ h
  · have h := ie h c
    refine r_iload_n (pc := 35) dX12_above_35 rfl 3 rfl ?_
    refine r_if_eq (pc := 36) (tgt := 45) dX12_above_36 rfl (fun c => ?_) (fun c => ?_)
    · have h := it h c
      refine r_iload (pc := 45) dX12_above_45 0 rfl ?_
      refine r_goto (pc := 47) (tgt := 51) dX12_above_47 rfl ?_
      refine r_istore_n (pc := 51) (L' := [(2, vI s0), (4, vI s0), (0, vR (some t)), (1, vI x1), (3, vI x3)]) dX12_above_51 rfl (by decide) rfl ?_
      refine r_iinc (pc := 52) (v := (x3 + (1 : Int32))) (L' := [(3, vI (x3 + (1 : Int32))), (2, vI s0), (4, vI s0), (0, vR (some t)), (1, vI x1)]) dX12_above_52 4 rfl (kc_inc_1 _) (by decide) rfl ?_
      refine r_goto (pc := 55) (tgt := 4) dX12_above_55 rfl ?_
      refine r_sub [3, 4, 1, 0] rfl ?_
      exact hq4 _ _ _ h
    · have h := ie h c
      refine r_iload (pc := 39) dX12_above_39 0 rfl ?_
      refine r_iload_n (pc := 41) dX12_above_41 rfl 3 rfl ?_
      refine r_icmp_ge (pc := 42) (tgt := 50) dX12_above_42 rfl (fun c => ?_) (fun c => ?_)
      · have h := it h c
        refine r_iload_n (pc := 50) dX12_above_50 rfl 3 rfl ?_
        refine r_istore_n (pc := 51) (L' := [(2, vI x2), (4, vI s0), (0, vR (some t)), (1, vI x1), (3, vI x3)]) dX12_above_51 rfl (by decide) rfl ?_
        refine r_iinc (pc := 52) (v := (x3 + (1 : Int32))) (L' := [(3, vI (x3 + (1 : Int32))), (2, vI x2), (4, vI s0), (0, vR (some t)), (1, vI x1)]) dX12_above_52 4 rfl (kc_inc_1 _) (by decide) rfl ?_
        refine r_goto (pc := 55) (tgt := 4) dX12_above_55 rfl ?_
        refine r_sub [3, 4, 1, 0] rfl ?_
        exact hq4 _ _ _ h
      · have h := ie h c
        refine r_iload (pc := 45) dX12_above_45 0 rfl ?_
        refine r_goto (pc := 47) (tgt := 51) dX12_above_47 rfl ?_
        refine r_istore_n (pc := 51) (L' := [(2, vI s0), (4, vI s0), (0, vR (some t)), (1, vI x1), (3, vI x3)]) dX12_above_51 rfl (by decide) rfl ?_
        refine r_iinc (pc := 52) (v := (x3 + (1 : Int32))) (L' := [(3, vI (x3 + (1 : Int32))), (2, vI s0), (4, vI s0), (0, vR (some t)), (1, vI x1)]) dX12_above_52 4 rfl (kc_inc_1 _) (by decide) rfl ?_
        refine r_goto (pc := 55) (tgt := 4) dX12_above_55 rfl ?_
        refine r_sub [3, 4, 1, 0] rfl ?_
        exact hq4 _ _ _ h
def fX12_above_l4  (σ : Shp) (I : Nat → Nat → Int32) (R : Nat → Nat → Option Nat) (t : Nat) : Nat → (Int32) → (Int32) → (Int32) → Option ((Int32))
  | 0, _, _, _ => none
  | n + 1, x1, x2, x3 =>
    if (20 : Int32) ≤ x3 then
      some x2
    else
      if kdx σ t = 13 then
      (fX12_isWhole σ I R t x3).bind fun r2 =>
      if r2 = 0 then
        fX12_above_b27 (fX12_above_l4 σ I R t n) σ I R t x1 x2 x3 (0 : Int32)
      else
        (fX12_numberOf σ I R t x3).bind fun r8 =>
        fX12_above_b27 (fX12_above_l4 σ I R t n) σ I R t x1 x2 x3 r8
      else none
theorem wX12_above_l4 {G : Gx} {l : Launch} {σ : Shp} {I : Nat → Nat → Int32} {J : Nat → Nat → Int64} {D : Nat → Nat → UInt64} {R : Nat → Nat → Option Nat} {t : Nat} {r9 : Int32} : ∀ (n : Nat) (x1 : Int32) (x2 : Int32) (x3 : Int32), fX12_above_l4 σ I R t n x1 x2 x3 = some r9 → WX12_above G l σ (σ, I, J, D, R) (some (vI r9)) (σ, I, J, D, R) 4 [(0, vR (some t)), (1, vI x1), (2, vI x2), (3, vI x3)] [] := by
  intro n
  induction n with
  | zero =>
    intro x1 x2 x3 h
    have h : none = some _ := h
    cases h
  | succ n ih =>
    intro x1 x2 x3 h
    rw [fX12_above_l4] at h
    refine r_iload_n (pc := 4) dX12_above_4 rfl 3 rfl ?_
    refine r_bipush (pc := 5) dX12_above_5 kc_bipush_20 ?_
    refine r_icmp_ge (pc := 7) (tgt := 58) dX12_above_7 rfl (fun c => ?_) (fun c => ?_)
    · have h := it h c
      refine r_iload_n (pc := 58) dX12_above_58 rfl 2 rfl ?_
      cases h
      exact r_iret dX12_above_59
    · have h := ie h c
      refine r_aload_n (pc := 10) dX12_above_10 rfl 0 rfl ?_
      refine r_iload_n (pc := 11) dX12_above_11 rfl 3 rfl ?_
      obtain ⟨g1, h⟩ := gd h
      obtain ⟨r2, hc3, h⟩ := ob h
      refine r_callV1 (pc := 12) (av := [vI x3]) (S := []) dX12_above_12 (kX12_isWhole hc3) g1 rfl mkX12_811 mwX12_isWhole rfl ⟨Nat.le_of_ble_eq_true rfl, Nat.le_of_ble_eq_true rfl⟩ (Nat.le_of_ble_eq_true rfl) ⟨Nat.le_refl _, Nat.le_refl _⟩ (fun b => b) ?_
      refine r_if_eq (pc := 15) (tgt := 26) dX12_above_15 rfl (fun c => ?_) (fun c => ?_)
      · have h := it h c
        refine r_iconst (pc := 26) dX12_above_26 kc_iconst_0 ?_
        refine r_sub [0, 1, 2, 3] rfl ?_
        exact wX12_above_b27 ih h
      · have h := ie h c
        refine r_aload_n (pc := 18) dX12_above_18 rfl 0 rfl ?_
        refine r_iload_n (pc := 19) dX12_above_19 rfl 3 rfl ?_
        obtain ⟨r8, hc9, h⟩ := ob h
        refine r_callV1 (pc := 20) (av := [vI x3]) (S := []) dX12_above_20 (kX12_numberOf hc9) g1 rfl mkX12_808 mwX12_numberOf rfl ⟨Nat.le_of_ble_eq_true rfl, Nat.le_of_ble_eq_true rfl⟩ (Nat.le_of_ble_eq_true rfl) ⟨Nat.le_refl _, Nat.le_refl _⟩ (fun b => b) ?_
        refine r_goto (pc := 23) (tgt := 27) dX12_above_23 rfl ?_
        refine r_sub [0, 1, 2, 3] rfl ?_
        exact wX12_above_b27 ih h
def fX12_above (σ : Shp) (I : Nat → Nat → Int32) (R : Nat → Nat → Option Nat) (t : Nat) (x1 : Int32) : Option ((Int32)) :=
  fX12_above_l4 σ I R t FUx x1 (0 : Int32) (0 : Int32)
theorem kX12_above {G : Gx} {l : Launch} {σ : Shp} {I : Nat → Nat → Int32} {J : Nat → Nat → Int64} {D : Nat → Nat → UInt64} {R : Nat → Nat → Option Nat} {t : Nat} {x1 : Int32} {r9 : Int32} (h : fX12_above σ I R t x1 = some r9) : Con G l yX12_above cX12_above 5 (some .int) 3 74 [vR (some t), vI x1] (σ, I, J, D, R) (σ, I, J, D, R) (some (vI r9)) := by
  unfold fX12_above at h
  refine Con.mk (by decide +kernel) rfl (Nat.le_of_ble_eq_true rfl) ?_
  show WX12_above G l σ (σ, I, J, D, R) (some (vI r9)) (σ, I, J, D, R) 0 _ []
  refine r_iconst (pc := 0) dX12_above_0 kc_iconst_0 ?_
  refine r_istore_n (pc := 1) (L' := [(2, vI (0 : Int32)), (0, vR (some t)), (1, vI x1)]) dX12_above_1 rfl (by decide) rfl ?_
  refine r_iconst (pc := 2) dX12_above_2 kc_iconst_0 ?_
  refine r_istore_n (pc := 3) (L' := [(3, vI (0 : Int32)), (2, vI (0 : Int32)), (0, vR (some t)), (1, vI x1)]) dX12_above_3 rfl (by decide) rfl ?_
  refine r_sub [2, 3, 1, 0] rfl ?_
  exact wX12_above_l4 _ _ _ _ h
abbrev WX12_readMany (G : Gx) (l : Launch) (σ0 : Shp) (X1 : Stt) (rv : Option SV) : Stt → Nat → List (Nat × SV) → List SV → Prop := Wm G l yX12_readMany cX12_readMany 3 (some .int) (fun _ => True) (rmx 4 98 σ0 X1.1) σ0 (Qmx G σ0 X1 rv)
def fX12_readMany_l8  (σ : Shp) (I : Nat → Nat → Int32) (R : Nat → Nat → Option Nat) (t : Nat) : Nat → (Int32) → (Int32) → Option ((Int32))
  | 0, _, _ => none
  | n + 1, x1, x2 =>
    if x2 ≤ 0 then
      some x1
    else
      let v4 := x1 + (1 : Int32)
      if kdx σ t = 13 then
      (fX12_above σ I R t x2).bind fun r6 =>
      fX12_readMany_l8 σ I R t n v4 r6
      else none
theorem wX12_readMany_l8 {G : Gx} {l : Launch} {σ : Shp} {I : Nat → Nat → Int32} {J : Nat → Nat → Int64} {D : Nat → Nat → UInt64} {R : Nat → Nat → Option Nat} {t : Nat} {r9 : Int32} : ∀ (n : Nat) (x1 : Int32) (x2 : Int32), fX12_readMany_l8 σ I R t n x1 x2 = some r9 → WX12_readMany G l σ (σ, I, J, D, R) (some (vI r9)) (σ, I, J, D, R) 8 [(0, vR (some t)), (1, vI x1), (2, vI x2)] [] := by
  intro n
  induction n with
  | zero =>
    intro x1 x2 h
    have h : none = some _ := h
    cases h
  | succ n ih =>
    intro x1 x2 h
    rw [fX12_readMany_l8] at h
    refine r_iload_n (pc := 8) dX12_readMany_8 rfl 2 rfl ?_
    refine r_if_le (pc := 9) (tgt := 24) dX12_readMany_9 rfl (fun c => ?_) (fun c => ?_)
    · have h := it h c
      refine r_iload_n (pc := 24) dX12_readMany_24 rfl 1 rfl ?_
      cases h
      exact r_iret dX12_readMany_25
    · have h := ie h c
      refine r_iinc (pc := 12) (v := (x1 + (1 : Int32))) (L' := [(1, vI (x1 + (1 : Int32))), (0, vR (some t)), (2, vI x2)]) dX12_readMany_12 1 rfl (kc_inc_1 _) (by decide) rfl ?_
      refine r_aload_n (pc := 15) dX12_readMany_15 rfl 1 rfl ?_
      refine r_iload_n (pc := 16) dX12_readMany_16 rfl 2 rfl ?_
      obtain ⟨g5, h⟩ := gd h
      obtain ⟨r6, hc7, h⟩ := ob h
      refine r_callV1 (pc := 17) (av := [vI x2]) (S := []) dX12_readMany_17 (kX12_above hc7) g5 rfl mkX12_814 mwX12_above rfl ⟨Nat.le_of_ble_eq_true rfl, Nat.le_of_ble_eq_true rfl⟩ (Nat.le_of_ble_eq_true rfl) ⟨Nat.le_refl _, Nat.le_refl _⟩ (fun b => b) ?_
      refine r_istore_n (pc := 20) (L' := [(2, vI r6), (1, vI (x1 + (1 : Int32))), (0, vR (some t))]) dX12_readMany_20 rfl (by decide) rfl ?_
      refine r_goto (pc := 21) (tgt := 8) dX12_readMany_21 rfl ?_
      refine r_sub [2, 1, 0] rfl ?_
      exact ih _ _ h
def fX12_readMany (σ : Shp) (I : Nat → Nat → Int32) (R : Nat → Nat → Option Nat) (t : Nat)  : Option ((Int32)) :=
  if kdx σ t = 13 then
  (fX12_above σ I R t (0 : Int32)).bind fun r2 =>
  fX12_readMany_l8 σ I R t FUx (0 : Int32) r2
  else none
theorem kX12_readMany {G : Gx} {l : Launch} {σ : Shp} {I : Nat → Nat → Int32} {J : Nat → Nat → Int64} {D : Nat → Nat → UInt64} {R : Nat → Nat → Option Nat} {t : Nat}  {r9 : Int32} (h : fX12_readMany σ I R t = some r9) : Con G l yX12_readMany cX12_readMany 3 (some .int) 4 98 [vR (some t)] (σ, I, J, D, R) (σ, I, J, D, R) (some (vI r9)) := by
  unfold fX12_readMany at h
  refine Con.mk (by decide +kernel) rfl (Nat.le_of_ble_eq_true rfl) ?_
  show WX12_readMany G l σ (σ, I, J, D, R) (some (vI r9)) (σ, I, J, D, R) 0 _ []
  refine r_iconst (pc := 0) dX12_readMany_0 kc_iconst_0 ?_
  refine r_istore_n (pc := 1) (L' := [(1, vI (0 : Int32)), (0, vR (some t))]) dX12_readMany_1 rfl (by decide) rfl ?_
  refine r_aload_n (pc := 2) dX12_readMany_2 rfl 1 rfl ?_
  refine r_iconst (pc := 3) dX12_readMany_3 kc_iconst_0 ?_
  obtain ⟨g1, h⟩ := gd h
  obtain ⟨r2, hc3, h⟩ := ob h
  refine r_callV1 (pc := 4) (av := [vI (0 : Int32)]) (S := []) dX12_readMany_4 (kX12_above hc3) g1 rfl mkX12_814 mwX12_above rfl ⟨Nat.le_of_ble_eq_true rfl, Nat.le_of_ble_eq_true rfl⟩ (Nat.le_of_ble_eq_true rfl) ⟨Nat.le_refl _, Nat.le_refl _⟩ (fun b => b) ?_
  refine r_istore_n (pc := 7) (L' := [(2, vI r2), (1, vI (0 : Int32)), (0, vR (some t))]) dX12_readMany_7 rfl (by decide) rfl ?_
  refine r_sub [2, 1, 0] rfl ?_
  exact wX12_readMany_l8 _ _ _ h
abbrev WX12_open1 (G : Gx) (l : Launch) (σ0 : Shp) (X1 : Stt) (rv : Option SV) : Stt → Nat → List (Nat × SV) → List SV → Prop := Wm G l yX12_open1 cX12_open1 4 (some .int) (fun _ => True) (rmx 5 120 σ0 X1.1) σ0 (Qmx G σ0 X1 rv)
def fX12_open1_b83 (q22 : (Nat → Nat → Int32) → (Int32) → (Option ((Nat → Nat → Int32) × (Int32)))) (σ : Shp) (R : Nat → Nat → Option Nat) (t : Nat) (I : Nat → Nat → Int32) (x1 : Int32) (s0 : Option Nat) (s1 : Int32) : Option ((Nat → Nat → Int32) × (Int32)) :=
  (s0 : Option Nat).bind fun a10 =>
  if kdx σ a10 = 13 then
  let I12 := u2 I a10 130 s1
  if kdx σ t = 13 then
  (fX12_isWhole σ I12 R t x1).bind fun r14 =>
  if r14 = 0 then
    let I16 := u2 I12 t 129 (I12 t 129)
    let v17 := x1 + (1 : Int32)
    q22 I16 v17
  else
    (fX12_numberOf σ I12 R t x1).bind fun r18 =>
    if r18 ≤ (I12 t 129) then
      let I20 := u2 I12 t 129 (I12 t 129)
      let v21 := x1 + (1 : Int32)
      q22 I20 v21
    else
      (fX12_numberOf σ I12 R t x1).bind fun r22 =>
      let I24 := u2 I12 t 129 r22
      let v25 := x1 + (1 : Int32)
      q22 I24 v25
  else none
  else none
theorem wX12_open1_b83 {G : Gx} {l : Launch} {σ : Shp} {I : Nat → Nat → Int32} {J : Nat → Nat → Int64} {D : Nat → Nat → UInt64} {R : Nat → Nat → Option Nat} {t : Nat} {I9 : Nat → Nat → Int32} {r9 : Int32} {q22 : (Nat → Nat → Int32) → (Int32) → (Option ((Nat → Nat → Int32) × (Int32)))} {x1 : Int32} {s0 : Option Nat} {s1 : Int32} (hq22 : ∀ (I : Nat → Nat → Int32) (x1 : Int32), q22 I x1 = some (I9, r9) → WX12_open1 G l σ (σ, I9, J, D, R) (some (vI r9)) (σ, I, J, D, R) 22 [(0, vR (some t)), (1, vI x1)] []) (h : fX12_open1_b83 q22 σ R t I x1 s0 s1 = some (I9, r9)) : WX12_open1 G l σ (σ, I9, J, D, R) (some (vI r9)) (σ, I, J, D, R) 83 [(0, vR (some t)), (1, vI x1)] [vI s1, vR s0] := by
  unfold fX12_open1_b83 at h
  obtain ⟨a10, ha10, h⟩ := ob h
  refine r_ref1 ha10 ?_
  obtain ⟨g11, h⟩ := gd h
  refine r_putI (pc := 83) dX12_open1_83 fwX12_789 rfl g11 ?_
  refine r_aload_n (pc := 86) dX12_open1_86 rfl 0 rfl ?_
  refine r_aload_n (pc := 87) dX12_open1_87 rfl 0 rfl ?_
  refine r_iload_n (pc := 88) dX12_open1_88 rfl 1 rfl ?_
  obtain ⟨g13, h⟩ := gd h
  obtain ⟨r14, hc15, h⟩ := ob h
  refine r_callV1 (pc := 89) (av := [vI x1]) (S := [vR (some t)]) dX12_open1_89 (kX12_isWhole hc15) g13 rfl mkX12_811 mwX12_isWhole rfl ⟨Nat.le_of_ble_eq_true rfl, Nat.le_of_ble_eq_true rfl⟩ (Nat.le_of_ble_eq_true rfl) ⟨Nat.le_refl _, Nat.le_refl _⟩ (fun b => b) ?_
  refine r_if_eq (pc := 92) (tgt := 115) dX12_open1_92 rfl (fun c => ?_) (fun c => ?_)
  · have h := it h c
    refine r_aload_n (pc := 115) dX12_open1_115 rfl 0 rfl ?_
    refine r_getI (pc := 116) dX12_open1_116 fgX12_792 rfl g13 ?_
    refine r_putI (pc := 119) dX12_open1_119 fwX12_792 rfl g13 ?_
    refine r_iinc (pc := 122) (v := (x1 + (1 : Int32))) (L' := [(1, vI (x1 + (1 : Int32))), (0, vR (some t))]) dX12_open1_122 1 rfl (kc_inc_1 _) (by decide) rfl ?_
    refine r_goto (pc := 125) (tgt := 22) dX12_open1_125 rfl ?_
    refine r_sub [1, 0] rfl ?_
    exact hq22 _ _ h
  · have h := ie h c
    refine r_aload_n (pc := 95) dX12_open1_95 rfl 0 rfl ?_
    refine r_iload_n (pc := 96) dX12_open1_96 rfl 1 rfl ?_
    obtain ⟨r18, hc19, h⟩ := ob h
    refine r_callV1 (pc := 97) (av := [vI x1]) (S := [vR (some t)]) dX12_open1_97 (kX12_numberOf hc19) g13 rfl mkX12_808 mwX12_numberOf rfl ⟨Nat.le_of_ble_eq_true rfl, Nat.le_of_ble_eq_true rfl⟩ (Nat.le_of_ble_eq_true rfl) ⟨Nat.le_refl _, Nat.le_refl _⟩ (fun b => b) ?_
    refine r_aload_n (pc := 100) dX12_open1_100 rfl 0 rfl ?_
    refine r_getI (pc := 101) dX12_open1_101 fgX12_792 rfl g13 ?_
    refine r_icmp_le (pc := 104) (tgt := 115) dX12_open1_104 rfl (fun c => ?_) (fun c => ?_)
    · have h := it h c
      refine r_aload_n (pc := 115) dX12_open1_115 rfl 0 rfl ?_
      refine r_getI (pc := 116) dX12_open1_116 fgX12_792 rfl g13 ?_
      refine r_putI (pc := 119) dX12_open1_119 fwX12_792 rfl g13 ?_
      refine r_iinc (pc := 122) (v := (x1 + (1 : Int32))) (L' := [(1, vI (x1 + (1 : Int32))), (0, vR (some t))]) dX12_open1_122 1 rfl (kc_inc_1 _) (by decide) rfl ?_
      refine r_goto (pc := 125) (tgt := 22) dX12_open1_125 rfl ?_
      refine r_sub [1, 0] rfl ?_
      exact hq22 _ _ h
    · have h := ie h c
      refine r_aload_n (pc := 107) dX12_open1_107 rfl 0 rfl ?_
      refine r_iload_n (pc := 108) dX12_open1_108 rfl 1 rfl ?_
      obtain ⟨r22, hc23, h⟩ := ob h
      refine r_callV1 (pc := 109) (av := [vI x1]) (S := [vR (some t)]) dX12_open1_109 (kX12_numberOf hc23) g13 rfl mkX12_808 mwX12_numberOf rfl ⟨Nat.le_of_ble_eq_true rfl, Nat.le_of_ble_eq_true rfl⟩ (Nat.le_of_ble_eq_true rfl) ⟨Nat.le_refl _, Nat.le_refl _⟩ (fun b => b) ?_
      refine r_goto (pc := 112) (tgt := 119) dX12_open1_112 rfl ?_
      refine r_putI (pc := 119) dX12_open1_119 fwX12_792 rfl g13 ?_
      refine r_iinc (pc := 122) (v := (x1 + (1 : Int32))) (L' := [(1, vI (x1 + (1 : Int32))), (0, vR (some t))]) dX12_open1_122 1 rfl (kc_inc_1 _) (by decide) rfl ?_
      refine r_goto (pc := 125) (tgt := 22) dX12_open1_125 rfl ?_
      refine r_sub [1, 0] rfl ?_
      exact hq22 _ _ h
def fX12_open1_l32 (q22 : (Nat → Nat → Int32) → (Int32) → (Option ((Nat → Nat → Int32) × (Int32)))) (σ : Shp) (R : Nat → Nat → Option Nat) (t : Nat) : Nat → (Nat → Nat → Int32) → (Int32) → (Int32) → (Int32) → Option ((Nat → Nat → Int32) × (Int32))
  | 0, _, _, _, _ => none
  | n + 1, I, x1, x2, x3 =>
    if (64 : Int32) ≤ x3 then
      if x2 = 0 then
        if kdx σ t = 13 then
        fX12_open1_b83 q22 σ R t I x1 (some t) (I t 130)
        else none
      else
        fX12_open1_b83 q22 σ R t I x1 (some t) (x1 + (1 : Int32))
    else
      if x2 = 0 then
        if kdx σ t = 13 then
        ((R t 127) : Option Nat).bind fun a28 =>
        if kdx σ a28 = 20 then
        if ¬ ((((64 : Int32) * x1) + x3) < 0 ∨ lnx σ a28 ≤ Int32.toNatClampNeg (((64 : Int32) * x1) + x3)) then
        if (I a28 (Int32.toNatClampNeg (((64 : Int32) * x1) + x3))) = 0 then
          let v31 := x3 + (1 : Int32)
          fX12_open1_l32 q22 σ R t n I x1 (0 : Int32) v31
        else
          let v32 := x3 + (1 : Int32)
          fX12_open1_l32 q22 σ R t n I x1 (1 : Int32) v32
        else none
        else none
        else none
      else
        let v26 := x3 + (1 : Int32)
        fX12_open1_l32 q22 σ R t n I x1 (1 : Int32) v26
theorem wX12_open1_l32 {G : Gx} {l : Launch} {σ : Shp} {J : Nat → Nat → Int64} {D : Nat → Nat → UInt64} {R : Nat → Nat → Option Nat} {t : Nat} {I9 : Nat → Nat → Int32} {r9 : Int32} {q22 : (Nat → Nat → Int32) → (Int32) → (Option ((Nat → Nat → Int32) × (Int32)))} (hq22 : ∀ (I : Nat → Nat → Int32) (x1 : Int32), q22 I x1 = some (I9, r9) → WX12_open1 G l σ (σ, I9, J, D, R) (some (vI r9)) (σ, I, J, D, R) 22 [(0, vR (some t)), (1, vI x1)] []) : ∀ (n : Nat) (I : Nat → Nat → Int32) (x1 : Int32) (x2 : Int32) (x3 : Int32), fX12_open1_l32 q22 σ R t n I x1 x2 x3 = some (I9, r9) → WX12_open1 G l σ (σ, I9, J, D, R) (some (vI r9)) (σ, I, J, D, R) 32 [(0, vR (some t)), (1, vI x1), (2, vI x2), (3, vI x3)] [] := by
  intro n
  induction n with
  | zero =>
    intro I x1 x2 x3 h
    have h : none = some _ := h
    cases h
  | succ n ih =>
    intro I x1 x2 x3 h
    rw [fX12_open1_l32] at h
    refine r_iload_n (pc := 32) dX12_open1_32 rfl 3 rfl ?_
    refine r_bipush (pc := 33) dX12_open1_33 kc_bipush_64 ?_
    refine r_icmp_ge (pc := 35) (tgt := 68) dX12_open1_35 rfl (fun c => ?_) (fun c => ?_)
    · have h := it h c
      refine r_aload_n (pc := 68) dX12_open1_68 rfl 0 rfl ?_
      refine r_iload_n (pc := 69) dX12_open1_69 rfl 2 rfl ?_
      refine r_if_eq (pc := 70) (tgt := 79) dX12_open1_70 rfl (fun c => ?_) (fun c => ?_)
      · have h := it h c
        refine r_aload_n (pc := 79) dX12_open1_79 rfl 0 rfl ?_
        obtain ⟨g9, h⟩ := gd h
        refine r_getI (pc := 80) dX12_open1_80 fgX12_789 rfl g9 ?_
        refine r_sub [0, 1] rfl ?_
        exact wX12_open1_b83 hq22 h
      · have h := ie h c
        refine r_iload_n (pc := 73) dX12_open1_73 rfl 1 rfl ?_
        refine r_iconst (pc := 74) dX12_open1_74 kc_iconst_1 ?_
        refine r_iadd (pc := 75) dX12_open1_75 ?_
        refine r_goto (pc := 76) (tgt := 83) dX12_open1_76 rfl ?_
        refine r_sub [0, 1] rfl ?_
        exact wX12_open1_b83 hq22 h
    · have h := ie h c
      refine r_iload_n (pc := 38) dX12_open1_38 rfl 2 rfl ?_
      refine r_ifne (pc := 39) (tgt := 56) dX12_open1_39 rfl (fun c => ?_) (fun c => ?_)
      · have h := ie h c
        refine r_iconst (pc := 56) dX12_open1_56 kc_iconst_1 ?_
        refine r_goto (pc := 57) (tgt := 61) dX12_open1_57 rfl ?_
        refine r_istore_n (pc := 61) (L' := [(2, vI (1 : Int32)), (0, vR (some t)), (1, vI x1), (3, vI x3)]) dX12_open1_61 rfl (by decide) rfl ?_
        refine r_iinc (pc := 62) (v := (x3 + (1 : Int32))) (L' := [(3, vI (x3 + (1 : Int32))), (2, vI (1 : Int32)), (0, vR (some t)), (1, vI x1)]) dX12_open1_62 3 rfl (kc_inc_1 _) (by decide) rfl ?_
        refine r_goto (pc := 65) (tgt := 32) dX12_open1_65 rfl ?_
        refine r_sub [2, 3, 1, 0] rfl ?_
        exact ih _ _ _ _ h
      · have h := it h c
        refine r_aload_n (pc := 42) dX12_open1_42 rfl 0 rfl ?_
        obtain ⟨g27, h⟩ := gd h
        obtain ⟨a28, ha28, h⟩ := ob h
        refine r_getS (pc := 43) dX12_open1_43 fgX12_290 rfl g27 ha28 ?_
        refine r_bipush (pc := 46) dX12_open1_46 kc_bipush_64 ?_
        refine r_iload_n (pc := 48) dX12_open1_48 rfl 1 rfl ?_
        refine r_imul (pc := 49) dX12_open1_49 ?_
        refine r_iload_n (pc := 50) dX12_open1_50 rfl 3 rfl ?_
        refine r_iadd (pc := 51) dX12_open1_51 ?_
        obtain ⟨g29, h⟩ := gd h
        obtain ⟨g30, h⟩ := gd h
        refine r_iaload (pc := 52) dX12_open1_52 g29 g30 ?_
        refine r_if_eq (pc := 53) (tgt := 60) dX12_open1_53 rfl (fun c => ?_) (fun c => ?_)
        · have h := it h c
          refine r_iconst (pc := 60) dX12_open1_60 kc_iconst_0 ?_
          refine r_istore_n (pc := 61) (L' := [(2, vI (0 : Int32)), (0, vR (some t)), (1, vI x1), (3, vI x3)]) dX12_open1_61 rfl (by decide) rfl ?_
          refine r_iinc (pc := 62) (v := (x3 + (1 : Int32))) (L' := [(3, vI (x3 + (1 : Int32))), (2, vI (0 : Int32)), (0, vR (some t)), (1, vI x1)]) dX12_open1_62 3 rfl (kc_inc_1 _) (by decide) rfl ?_
          refine r_goto (pc := 65) (tgt := 32) dX12_open1_65 rfl ?_
          refine r_sub [2, 3, 1, 0] rfl ?_
          exact ih _ _ _ _ h
        · have h := ie h c
          refine r_iconst (pc := 56) dX12_open1_56 kc_iconst_1 ?_
          refine r_goto (pc := 57) (tgt := 61) dX12_open1_57 rfl ?_
          refine r_istore_n (pc := 61) (L' := [(2, vI (1 : Int32)), (0, vR (some t)), (1, vI x1), (3, vI x3)]) dX12_open1_61 rfl (by decide) rfl ?_
          refine r_iinc (pc := 62) (v := (x3 + (1 : Int32))) (L' := [(3, vI (x3 + (1 : Int32))), (2, vI (1 : Int32)), (0, vR (some t)), (1, vI x1)]) dX12_open1_62 3 rfl (kc_inc_1 _) (by decide) rfl ?_
          refine r_goto (pc := 65) (tgt := 32) dX12_open1_65 rfl ?_
          refine r_sub [2, 3, 1, 0] rfl ?_
          exact ih _ _ _ _ h
def fX12_open1_l22  (σ : Shp) (R : Nat → Nat → Option Nat) (t : Nat) : Nat → (Nat → Nat → Int32) → (Int32) → Option ((Nat → Nat → Int32) × (Int32))
  | 0, _, _ => none
  | n + 1, I, x1 =>
    if (20 : Int32) ≤ x1 then
      if kdx σ t = 13 then
      (fX12_readMany σ I R t).bind fun r7 =>
      some (I, r7)
      else none
    else
      fX12_open1_l32 (fX12_open1_l22 σ R t n) σ R t FUx I x1 (0 : Int32) (0 : Int32)
theorem wX12_open1_l22 {G : Gx} {l : Launch} {σ : Shp} {J : Nat → Nat → Int64} {D : Nat → Nat → UInt64} {R : Nat → Nat → Option Nat} {t : Nat} {I9 : Nat → Nat → Int32} {r9 : Int32} : ∀ (n : Nat) (I : Nat → Nat → Int32) (x1 : Int32), fX12_open1_l22 σ R t n I x1 = some (I9, r9) → WX12_open1 G l σ (σ, I9, J, D, R) (some (vI r9)) (σ, I, J, D, R) 22 [(0, vR (some t)), (1, vI x1)] [] := by
  intro n
  induction n with
  | zero =>
    intro I x1 h
    have h : none = some _ := h
    cases h
  | succ n ih =>
    intro I x1 h
    rw [fX12_open1_l22] at h
    refine r_iload_n (pc := 22) dX12_open1_22 rfl 1 rfl ?_
    refine r_bipush (pc := 23) dX12_open1_23 kc_bipush_20 ?_
    refine r_icmp_ge (pc := 25) (tgt := 128) dX12_open1_25 rfl (fun c => ?_) (fun c => ?_)
    · have h := it h c
      refine r_aload_n (pc := 128) dX12_open1_128 rfl 0 rfl ?_
      obtain ⟨g6, h⟩ := gd h
      obtain ⟨r7, hc8, h⟩ := ob h
      refine r_callV1 (pc := 129) (av := []) (S := []) dX12_open1_129 (kX12_readMany hc8) g6 rfl mkX12_817 mwX12_readMany rfl ⟨Nat.le_of_ble_eq_true rfl, Nat.le_of_ble_eq_true rfl⟩ (Nat.le_of_ble_eq_true rfl) ⟨Nat.le_refl _, Nat.le_refl _⟩ (fun b => b) ?_
      cases h
      exact r_iret dX12_open1_132
    · have h := ie h c
      refine r_iconst (pc := 28) dX12_open1_28 kc_iconst_0 ?_
      refine r_istore_n (pc := 29) (L' := [(2, vI (0 : Int32)), (0, vR (some t)), (1, vI x1)]) dX12_open1_29 rfl (by decide) rfl ?_
      refine r_iconst (pc := 30) dX12_open1_30 kc_iconst_0 ?_
      refine r_istore_n (pc := 31) (L' := [(3, vI (0 : Int32)), (2, vI (0 : Int32)), (0, vR (some t)), (1, vI x1)]) dX12_open1_31 rfl (by decide) rfl ?_
      refine r_sub [2, 3, 1, 0] rfl ?_
      exact wX12_open1_l32 ih _ _ _ _ _ h
def fX12_open1 (σ : Shp) (I : Nat → Nat → Int32) (R : Nat → Nat → Option Nat) (t : Nat)  : Option ((Nat → Nat → Int32) × (Int32)) :=
  if kdx σ t = 13 then
  let I2 := u2 I t 131 (0 : Int32)
  let I3 := u2 I2 t 132 (-1 : Int32)
  let I4 := u2 I3 t 129 (0 : Int32)
  let I5 := u2 I4 t 130 (0 : Int32)
  fX12_open1_l22 σ R t FUx I5 (0 : Int32)
  else none
theorem kX12_open1 {G : Gx} {l : Launch} {σ : Shp} {I : Nat → Nat → Int32} {J : Nat → Nat → Int64} {D : Nat → Nat → UInt64} {R : Nat → Nat → Option Nat} {t : Nat}  {I9 : Nat → Nat → Int32} {r9 : Int32} (h : fX12_open1 σ I R t = some (I9, r9)) : Con G l yX12_open1 cX12_open1 4 (some .int) 5 120 [vR (some t)] (σ, I, J, D, R) (σ, I9, J, D, R) (some (vI r9)) := by
  unfold fX12_open1 at h
  refine Con.mk (by decide +kernel) rfl (Nat.le_of_ble_eq_true rfl) ?_
  show WX12_open1 G l σ (σ, I9, J, D, R) (some (vI r9)) (σ, I, J, D, R) 0 _ []
  refine r_aload_n (pc := 0) dX12_open1_0 rfl 0 rfl ?_
  refine r_iconst (pc := 1) dX12_open1_1 kc_iconst_0 ?_
  obtain ⟨g1, h⟩ := gd h
  refine r_putZ (pc := 2) dX12_open1_2 fwX12_786 rfl (Or.inl rfl) g1 ?_
  refine r_aload_n (pc := 5) dX12_open1_5 rfl 0 rfl ?_
  refine r_iconst (pc := 6) dX12_open1_6 kc_iconst_m1 ?_
  refine r_putI (pc := 7) dX12_open1_7 fwX12_296 rfl g1 ?_
  refine r_aload_n (pc := 10) dX12_open1_10 rfl 0 rfl ?_
  refine r_iconst (pc := 11) dX12_open1_11 kc_iconst_0 ?_
  refine r_putI (pc := 12) dX12_open1_12 fwX12_792 rfl g1 ?_
  refine r_aload_n (pc := 15) dX12_open1_15 rfl 0 rfl ?_
  refine r_iconst (pc := 16) dX12_open1_16 kc_iconst_0 ?_
  refine r_putI (pc := 17) dX12_open1_17 fwX12_789 rfl g1 ?_
  refine r_iconst (pc := 20) dX12_open1_20 kc_iconst_0 ?_
  refine r_istore_n (pc := 21) (L' := [(1, vI (0 : Int32)), (0, vR (some t))]) dX12_open1_21 rfl (by decide) rfl ?_
  refine r_sub [1, 0] rfl ?_
  exact wX12_open1_l22 _ _ _ h
abbrev WX12_page (G : Gx) (l : Launch) (σ0 : Shp) (X1 : Stt) (rv : Option SV) : Stt → Nat → List (Nat × SV) → List SV → Prop := Wm G l yX12_page cX12_page 6 (some .long) (fun _ => True) (rmx 4 98 σ0 X1.1) σ0 (Qmx G σ0 X1 rv)
def fX12_page_b109  (σ : Shp) (I : Nat → Nat → Int32) (R : Nat → Nat → Option Nat) (t : Nat) (x2 : Int32) (x3 : Int32) (x4 : Int32) (x5 : Int32) : Option ((Int64)) :=
  if x2 = 0 then
    some (Int32.toInt64 x4)
  else
    if x2 = (1 : Int32) then
      some (Int32.toInt64 x3)
    else
      if x2 = (2 : Int32) then
        if kdx σ t = 13 then
        ((R t 127) : Option Nat).bind fun a12 =>
        if kdx σ a12 = 20 then
        if ¬ ((((64 : Int32) * x4) + (4 : Int32)) < 0 ∨ lnx σ a12 ≤ Int32.toNatClampNeg (((64 : Int32) * x4) + (4 : Int32))) then
        some (Int32.toInt64 (I a12 (Int32.toNatClampNeg (((64 : Int32) * x4) + (4 : Int32)))))
        else none
        else none
        else none
      else
        if x2 = (3 : Int32) then
          some (Int32.toInt64 x5)
        else
          some (-1 : Int64)
theorem wX12_page_b109 {G : Gx} {l : Launch} {σ : Shp} {I : Nat → Nat → Int32} {J : Nat → Nat → Int64} {D : Nat → Nat → UInt64} {R : Nat → Nat → Option Nat} {t : Nat} {r9 : Int64} {x2 : Int32} {x3 : Int32} {x4 : Int32} {x5 : Int32} (h : fX12_page_b109 σ I R t x2 x3 x4 x5 = some r9) : WX12_page G l σ (σ, I, J, D, R) (some (vL r9)) (σ, I, J, D, R) 109 [(0, vR (some t)), (2, vI x2), (3, vI x3), (4, vI x4), (5, vI x5)] [] := by
  unfold fX12_page_b109 at h
  refine r_iload_n (pc := 109) dX12_page_109 rfl 1 rfl ?_
  refine r_ifne (pc := 110) (tgt := 119) dX12_page_110 rfl (fun c => ?_) (fun c => ?_)
  · have h := ie h c
    refine r_iload_n (pc := 119) dX12_page_119 rfl 1 rfl ?_
    refine r_iconst (pc := 120) dX12_page_120 kc_iconst_1 ?_
    refine r_icmp_ne (pc := 121) (tgt := 129) dX12_page_121 rfl (fun c => ?_) (fun c => ?_)
    · have h := ie h c
      refine r_iload_n (pc := 129) dX12_page_129 rfl 1 rfl ?_
      refine r_iconst (pc := 130) dX12_page_130 kc_iconst_2 ?_
      refine r_icmp_ne (pc := 131) (tgt := 150) dX12_page_131 rfl (fun c => ?_) (fun c => ?_)
      · have h := ie h c
        refine r_iload_n (pc := 150) dX12_page_150 rfl 1 rfl ?_
        refine r_iconst (pc := 151) dX12_page_151 kc_iconst_3 ?_
        refine r_icmp_ne (pc := 152) (tgt := 161) dX12_page_152 rfl (fun c => ?_) (fun c => ?_)
        · have h := ie h c
          refine r_ldc2 (pc := 161) dX12_page_161 clX12_634 ?_
          cases h
          exact r_lret dX12_page_164
        · have h := it h c
          refine r_iload (pc := 155) dX12_page_155 4 rfl ?_
          refine r_i2l (pc := 157) dX12_page_157 ?_
          refine r_goto (pc := 158) (tgt := 164) dX12_page_158 rfl ?_
          cases h
          exact r_lret dX12_page_164
      · have h := it h c
        refine r_aload_n (pc := 134) dX12_page_134 rfl 0 rfl ?_
        obtain ⟨g11, h⟩ := gd h
        obtain ⟨a12, ha12, h⟩ := ob h
        refine r_getS (pc := 135) dX12_page_135 fgX12_290 rfl g11 ha12 ?_
        refine r_bipush (pc := 138) dX12_page_138 kc_bipush_64 ?_
        refine r_iload (pc := 140) dX12_page_140 3 rfl ?_
        refine r_imul (pc := 142) dX12_page_142 ?_
        refine r_iconst (pc := 143) dX12_page_143 kc_iconst_4 ?_
        refine r_iadd (pc := 144) dX12_page_144 ?_
        obtain ⟨g13, h⟩ := gd h
        obtain ⟨g14, h⟩ := gd h
        refine r_iaload (pc := 145) dX12_page_145 g13 g14 ?_
        refine r_i2l (pc := 146) dX12_page_146 ?_
        refine r_goto (pc := 147) (tgt := 164) dX12_page_147 rfl ?_
        cases h
        exact r_lret dX12_page_164
    · have h := it h c
      refine r_iload_n (pc := 124) dX12_page_124 rfl 2 rfl ?_
      refine r_i2l (pc := 125) dX12_page_125 ?_
      refine r_goto (pc := 126) (tgt := 164) dX12_page_126 rfl ?_
      cases h
      exact r_lret dX12_page_164
  · have h := it h c
    refine r_iload (pc := 113) dX12_page_113 3 rfl ?_
    refine r_i2l (pc := 115) dX12_page_115 ?_
    refine r_goto (pc := 116) (tgt := 164) dX12_page_116 rfl ?_
    cases h
    exact r_lret dX12_page_164
def fX12_page_b39  (σ : Shp) (I : Nat → Nat → Int32) (R : Nat → Nat → Option Nat) (t : Nat) (x2 : Int32) (x3 : Int32) : Option ((Int64)) :=
  if x3 = 0 then
    some (-1 : Int64)
  else
    if kdx σ t = 13 then
    (fX12_pageOf σ I R t x3).bind fun r5 =>
    ((R t 127) : Option Nat).bind fun a7 =>
    if kdx σ a7 = 20 then
    if ¬ ((((64 : Int32) * r5) + (5 : Int32)) < 0 ∨ lnx σ a7 ≤ Int32.toNatClampNeg (((64 : Int32) * r5) + (5 : Int32))) then
    let v10 := (I a7 (Int32.toNatClampNeg (((64 : Int32) * r5) + (5 : Int32))))
    if x2 < (10 : Int32) then
      fX12_page_b109 σ I R t x2 x3 r5 v10
    else
      if v10 ≤ (x2 - (10 : Int32)) then
        fX12_page_b109 σ I R t x2 x3 r5 v10
      else
        (fX12_wide σ I (some a7) ((((64 : Int32) * r5) + (12 : Int32)) + ((8 : Int32) * (x2 - (10 : Int32)))) (8 : Int32)).bind fun r15 =>
        some r15
    else none
    else none
    else none
theorem wX12_page_b39 {G : Gx} {l : Launch} {σ : Shp} {I : Nat → Nat → Int32} {J : Nat → Nat → Int64} {D : Nat → Nat → UInt64} {R : Nat → Nat → Option Nat} {t : Nat} {r9 : Int64} {x2 : Int32} {x3 : Int32} (h : fX12_page_b39 σ I R t x2 x3 = some r9) : WX12_page G l σ (σ, I, J, D, R) (some (vL r9)) (σ, I, J, D, R) 39 [(0, vR (some t)), (2, vI x2), (3, vI x3)] [] := by
  unfold fX12_page_b39 at h
  refine r_iload_n (pc := 39) dX12_page_39 rfl 2 rfl ?_
  refine r_ifne (pc := 40) (tgt := 47) dX12_page_40 rfl (fun c => ?_) (fun c => ?_)
  · have h := ie h c
    refine r_aload_n (pc := 47) dX12_page_47 rfl 0 rfl ?_
    refine r_iload_n (pc := 48) dX12_page_48 rfl 2 rfl ?_
    obtain ⟨g4, h⟩ := gd h
    obtain ⟨r5, hc6, h⟩ := ob h
    refine r_callV1 (pc := 49) (av := [vI x3]) (S := []) dX12_page_49 (kX12_pageOf hc6) g4 rfl mkX12_820 mwX12_pageOf rfl ⟨Nat.le_of_ble_eq_true rfl, Nat.le_of_ble_eq_true rfl⟩ (Nat.le_of_ble_eq_true rfl) ⟨Nat.le_refl _, Nat.le_refl _⟩ (fun b => b) ?_
    refine r_istore (pc := 52) (L' := [(4, vI r5), (0, vR (some t)), (2, vI x2), (3, vI x3)]) dX12_page_52 (by decide) rfl ?_
    refine r_aload_n (pc := 54) dX12_page_54 rfl 1 rfl ?_
    obtain ⟨a7, ha7, h⟩ := ob h
    refine r_getS (pc := 55) dX12_page_55 fgX12_290 rfl g4 ha7 ?_
    refine r_bipush (pc := 58) dX12_page_58 kc_bipush_64 ?_
    refine r_iload (pc := 60) dX12_page_60 0 rfl ?_
    refine r_imul (pc := 62) dX12_page_62 ?_
    refine r_iconst (pc := 63) dX12_page_63 kc_iconst_5 ?_
    refine r_iadd (pc := 64) dX12_page_64 ?_
    obtain ⟨g8, h⟩ := gd h
    obtain ⟨g9, h⟩ := gd h
    refine r_iaload (pc := 65) dX12_page_65 g8 g9 ?_
    refine r_istore (pc := 66) (L' := [(5, vI (I a7 (Int32.toNatClampNeg (((64 : Int32) * r5) + (5 : Int32))))), (4, vI r5), (0, vR (some t)), (2, vI x2), (3, vI x3)]) dX12_page_66 (by decide) rfl ?_
    refine r_iload_n (pc := 68) dX12_page_68 rfl 3 rfl ?_
    refine r_bipush (pc := 69) dX12_page_69 kc_bipush_10 ?_
    refine r_icmp_lt (pc := 71) (tgt := 109) dX12_page_71 rfl (fun c => ?_) (fun c => ?_)
    · have h := it h c
      refine r_sub [2, 3, 4, 1, 0] rfl ?_
      exact wX12_page_b109 h
    · have h := ie h c
      refine r_iload_n (pc := 74) dX12_page_74 rfl 3 rfl ?_
      refine r_bipush (pc := 75) dX12_page_75 kc_bipush_10 ?_
      refine r_isub (pc := 77) dX12_page_77 ?_
      refine r_iload (pc := 78) dX12_page_78 0 rfl ?_
      refine r_icmp_ge (pc := 80) (tgt := 109) dX12_page_80 rfl (fun c => ?_) (fun c => ?_)
      · have h := it h c
        refine r_sub [2, 3, 4, 1, 0] rfl ?_
        exact wX12_page_b109 h
      · have h := ie h c
        refine r_aload_n (pc := 83) dX12_page_83 rfl 2 rfl ?_
        refine r_getS (pc := 84) dX12_page_84 fgX12_290 rfl g4 ha7 ?_
        refine r_bipush (pc := 87) dX12_page_87 kc_bipush_64 ?_
        refine r_iload (pc := 89) dX12_page_89 1 rfl ?_
        refine r_imul (pc := 91) dX12_page_91 ?_
        refine r_bipush (pc := 92) dX12_page_92 kc_bipush_12 ?_
        refine r_iadd (pc := 94) dX12_page_94 ?_
        refine r_bipush (pc := 95) dX12_page_95 kc_bipush_8 ?_
        refine r_iload_n (pc := 97) dX12_page_97 rfl 3 rfl ?_
        refine r_bipush (pc := 98) dX12_page_98 kc_bipush_10 ?_
        refine r_isub (pc := 100) dX12_page_100 ?_
        refine r_imul (pc := 101) dX12_page_101 ?_
        refine r_iadd (pc := 102) dX12_page_102 ?_
        refine r_bipush (pc := 103) dX12_page_103 kc_bipush_8 ?_
        obtain ⟨r15, hc16, h⟩ := ob h
        refine r_callS1 (pc := 105) (av := [vR (some a7), vI ((((64 : Int32) * r5) + (12 : Int32)) + ((8 : Int32) * (x2 - (10 : Int32)))), vI (8 : Int32)]) (S := []) dX12_page_105 (kX12_wide hc16) mkX12_804 mwX12_wide rfl ⟨Nat.le_of_ble_eq_true rfl, Nat.le_of_ble_eq_true rfl⟩ (Nat.le_of_ble_eq_true rfl) ⟨Nat.le_refl _, Nat.le_refl _⟩ (fun b => b) ?_
        cases h
        exact r_lret dX12_page_108
  · have h := it h c
    refine r_ldc2 (pc := 43) dX12_page_43 clX12_634 ?_
    cases h
    exact r_lret dX12_page_46
def fX12_page_l17  (σ : Shp) (I : Nat → Nat → Int32) (R : Nat → Nat → Option Nat) (t : Nat) : Nat → (Int32) → (Int32) → (Int32) → (Int32) → Option ((Int64))
  | 0, _, _, _, _ => none
  | n + 1, x1, x2, x3, x4 =>
    if x1 ≤ x4 then
      fX12_page_b39 σ I R t x2 x3
    else
      if x3 ≤ 0 then
        fX12_page_b39 σ I R t x2 x3
      else
        if kdx σ t = 13 then
        (fX12_above σ I R t x3).bind fun r18 =>
        let v20 := x4 + (1 : Int32)
        fX12_page_l17 σ I R t n x1 x2 r18 v20
        else none
theorem wX12_page_l17 {G : Gx} {l : Launch} {σ : Shp} {I : Nat → Nat → Int32} {J : Nat → Nat → Int64} {D : Nat → Nat → UInt64} {R : Nat → Nat → Option Nat} {t : Nat} {r9 : Int64} : ∀ (n : Nat) (x1 : Int32) (x2 : Int32) (x3 : Int32) (x4 : Int32), fX12_page_l17 σ I R t n x1 x2 x3 x4 = some r9 → WX12_page G l σ (σ, I, J, D, R) (some (vL r9)) (σ, I, J, D, R) 17 [(0, vR (some t)), (1, vI x1), (2, vI x2), (3, vI x3), (4, vI x4)] [] := by
  intro n
  induction n with
  | zero =>
    intro x1 x2 x3 x4 h
    have h : none = some _ := h
    cases h
  | succ n ih =>
    intro x1 x2 x3 x4 h
    rw [fX12_page_l17] at h
    refine r_iload (pc := 17) dX12_page_17 4 rfl ?_
    refine r_iload_n (pc := 19) dX12_page_19 rfl 1 rfl ?_
    refine r_icmp_ge (pc := 20) (tgt := 39) dX12_page_20 rfl (fun c => ?_) (fun c => ?_)
    · have h := it h c
      refine r_sub [0, 2, 3] rfl ?_
      exact wX12_page_b39 h
    · have h := ie h c
      refine r_iload_n (pc := 23) dX12_page_23 rfl 3 rfl ?_
      refine r_if_le (pc := 24) (tgt := 39) dX12_page_24 rfl (fun c => ?_) (fun c => ?_)
      · have h := it h c
        refine r_sub [0, 2, 3] rfl ?_
        exact wX12_page_b39 h
      · have h := ie h c
        refine r_aload_n (pc := 27) dX12_page_27 rfl 0 rfl ?_
        refine r_iload_n (pc := 28) dX12_page_28 rfl 3 rfl ?_
        obtain ⟨g17, h⟩ := gd h
        obtain ⟨r18, hc19, h⟩ := ob h
        refine r_callV1 (pc := 29) (av := [vI x3]) (S := []) dX12_page_29 (kX12_above hc19) g17 rfl mkX12_814 mwX12_above rfl ⟨Nat.le_of_ble_eq_true rfl, Nat.le_of_ble_eq_true rfl⟩ (Nat.le_of_ble_eq_true rfl) ⟨Nat.le_refl _, Nat.le_refl _⟩ (fun b => b) ?_
        refine r_istore_n (pc := 32) (L' := [(3, vI r18), (0, vR (some t)), (1, vI x1), (2, vI x2), (4, vI x4)]) dX12_page_32 rfl (by decide) rfl ?_
        refine r_iinc (pc := 33) (v := (x4 + (1 : Int32))) (L' := [(4, vI (x4 + (1 : Int32))), (3, vI r18), (0, vR (some t)), (1, vI x1), (2, vI x2)]) dX12_page_33 4 rfl (kc_inc_1 _) (by decide) rfl ?_
        refine r_goto (pc := 36) (tgt := 17) dX12_page_36 rfl ?_
        refine r_sub [2, 3, 4, 1, 0] rfl ?_
        exact ih _ _ _ _ h
def fX12_page (σ : Shp) (I : Nat → Nat → Int32) (R : Nat → Nat → Option Nat) (t : Nat) (x1 : Int32) (x2 : Int32) : Option ((Int64)) :=
  if 0 ≤ x1 then
    if kdx σ t = 13 then
    (fX12_above σ I R t (0 : Int32)).bind fun r2 =>
    fX12_page_l17 σ I R t FUx x1 x2 r2 (0 : Int32)
    else none
  else
    some (-1 : Int64)
theorem kX12_page {G : Gx} {l : Launch} {σ : Shp} {I : Nat → Nat → Int32} {J : Nat → Nat → Int64} {D : Nat → Nat → UInt64} {R : Nat → Nat → Option Nat} {t : Nat} {x1 : Int32} {x2 : Int32} {r9 : Int64} (h : fX12_page σ I R t x1 x2 = some r9) : Con G l yX12_page cX12_page 6 (some .long) 4 98 [vR (some t), vI x1, vI x2] (σ, I, J, D, R) (σ, I, J, D, R) (some (vL r9)) := by
  unfold fX12_page at h
  refine Con.mk (by decide +kernel) rfl (Nat.le_of_ble_eq_true rfl) ?_
  show WX12_page G l σ (σ, I, J, D, R) (some (vL r9)) (σ, I, J, D, R) 0 _ []
  refine r_iload_n (pc := 0) dX12_page_0 rfl 1 rfl ?_
  refine r_ifge (pc := 1) (tgt := 8) dX12_page_1 rfl (fun c => ?_) (fun c => ?_)
  · have h := it h c
    refine r_aload_n (pc := 8) dX12_page_8 rfl 0 rfl ?_
    refine r_iconst (pc := 9) dX12_page_9 kc_iconst_0 ?_
    obtain ⟨g1, h⟩ := gd h
    obtain ⟨r2, hc3, h⟩ := ob h
    refine r_callV1 (pc := 10) (av := [vI (0 : Int32)]) (S := []) dX12_page_10 (kX12_above hc3) g1 rfl mkX12_814 mwX12_above rfl ⟨Nat.le_of_ble_eq_true rfl, Nat.le_of_ble_eq_true rfl⟩ (Nat.le_of_ble_eq_true rfl) ⟨Nat.le_refl _, Nat.le_refl _⟩ (fun b => b) ?_
    refine r_istore_n (pc := 13) (L' := [(3, vI r2), (0, vR (some t)), (1, vI x1), (2, vI x2)]) dX12_page_13 rfl (by decide) rfl ?_
    refine r_iconst (pc := 14) dX12_page_14 kc_iconst_0 ?_
    refine r_istore (pc := 15) (L' := [(4, vI (0 : Int32)), (3, vI r2), (0, vR (some t)), (1, vI x1), (2, vI x2)]) dX12_page_15 (by decide) rfl ?_
    refine r_sub [2, 3, 4, 1, 0] rfl ?_
    exact wX12_page_l17 _ _ _ _ _ h
  · have h := ie h c
    refine r_ldc2 (pc := 4) dX12_page_4 clX12_634 ?_
    cases h
    exact r_lret dX12_page_7
abbrev WX12_clash (G : Gx) (l : Launch) (σ0 : Shp) (X1 : Stt) (rv : Option SV) : Stt → Nat → List (Nat × SV) → List SV → Prop := Wm G l yX12_clash cX12_clash 6 (some .int) (fun _ => True) (rmx 4 96 σ0 X1.1) σ0 (Qmx G σ0 X1 rv)
def fX12_clash_l34 (q4 : (Int32) → (Int32) → (Option ((Int32)))) (σ : Shp) (I : Nat → Nat → Int32) (R : Nat → Nat → Option Nat) (t : Nat) : Nat → (Int32) → (Int32) → (Int32) → (Int32) → (Int32) → Option ((Int32))
  | 0, _, _, _, _, _ => none
  | n + 1, x1, x2, x3, x4, x5 =>
    if (64 : Int32) ≤ x5 then
      if x4 = 0 then
        let v9 := (x1 + (0 : Int32))
        let v10 := x2 + (1 : Int32)
        q4 v9 v10
      else
        let v11 := (x1 + (1 : Int32))
        let v12 := x2 + (1 : Int32)
        q4 v11 v12
    else
      if x4 = 0 then
        if kdx σ t = 13 then
        ((R t 127) : Option Nat).bind fun a15 =>
        if kdx σ a15 = 20 then
        if ¬ ((((64 : Int32) * x2) + x5) < 0 ∨ lnx σ a15 ≤ Int32.toNatClampNeg (((64 : Int32) * x2) + x5)) then
        if ¬ ((((64 : Int32) * x3) + x5) < 0 ∨ lnx σ a15 ≤ Int32.toNatClampNeg (((64 : Int32) * x3) + x5)) then
        if (I a15 (Int32.toNatClampNeg (((64 : Int32) * x2) + x5))) = (I a15 (Int32.toNatClampNeg (((64 : Int32) * x3) + x5))) then
          let v19 := x5 + (1 : Int32)
          fX12_clash_l34 q4 σ I R t n x1 x2 x3 (0 : Int32) v19
        else
          let v20 := x5 + (1 : Int32)
          fX12_clash_l34 q4 σ I R t n x1 x2 x3 (1 : Int32) v20
        else none
        else none
        else none
        else none
      else
        let v13 := x5 + (1 : Int32)
        fX12_clash_l34 q4 σ I R t n x1 x2 x3 (1 : Int32) v13
theorem wX12_clash_l34 {G : Gx} {l : Launch} {σ : Shp} {I : Nat → Nat → Int32} {J : Nat → Nat → Int64} {D : Nat → Nat → UInt64} {R : Nat → Nat → Option Nat} {t : Nat} {r9 : Int32} {q4 : (Int32) → (Int32) → (Option ((Int32)))} (hq4 : ∀ (x1 : Int32) (x2 : Int32), q4 x1 x2 = some r9 → WX12_clash G l σ (σ, I, J, D, R) (some (vI r9)) (σ, I, J, D, R) 4 [(0, vR (some t)), (1, vI x1), (2, vI x2)] []) : ∀ (n : Nat) (x1 : Int32) (x2 : Int32) (x3 : Int32) (x4 : Int32) (x5 : Int32), fX12_clash_l34 q4 σ I R t n x1 x2 x3 x4 x5 = some r9 → WX12_clash G l σ (σ, I, J, D, R) (some (vI r9)) (σ, I, J, D, R) 34 [(0, vR (some t)), (1, vI x1), (2, vI x2), (3, vI x3), (4, vI x4), (5, vI x5)] [] := by
  intro n
  induction n with
  | zero =>
    intro x1 x2 x3 x4 x5 h
    have h : none = some _ := h
    cases h
  | succ n ih =>
    intro x1 x2 x3 x4 x5 h
    rw [fX12_clash_l34] at h
    refine r_iload (pc := 34) dX12_clash_34 5 rfl ?_
    refine r_bipush (pc := 36) dX12_clash_36 kc_bipush_64 ?_
    refine r_icmp_ge (pc := 38) (tgt := 86) dX12_clash_38 rfl (fun c => ?_) (fun c => ?_)
    · have h := it h c
      refine r_iload_n (pc := 86) dX12_clash_86 rfl 1 rfl ?_
      refine r_iload (pc := 87) dX12_clash_87 4 rfl ?_
      refine r_if_eq (pc := 89) (tgt := 96) dX12_clash_89 rfl (fun c => ?_) (fun c => ?_)
      · have h := it h c
        refine r_iconst (pc := 96) dX12_clash_96 kc_iconst_0 ?_
        refine r_iadd (pc := 97) dX12_clash_97 ?_
        refine r_istore_n (pc := 98) (L' := [(1, vI (x1 + (0 : Int32))), (0, vR (some t)), (2, vI x2), (3, vI x3), (4, vI x4), (5, vI x5)]) dX12_clash_98 rfl (by decide) rfl ?_
        refine r_iinc (pc := 99) (v := (x2 + (1 : Int32))) (L' := [(2, vI (x2 + (1 : Int32))), (1, vI (x1 + (0 : Int32))), (0, vR (some t)), (3, vI x3), (4, vI x4), (5, vI x5)]) dX12_clash_99 2 rfl (kc_inc_1 _) (by decide) rfl ?_
        refine r_goto (pc := 102) (tgt := 4) dX12_clash_102 rfl ?_
        refine r_sub [2, 1, 0] rfl ?_
        exact hq4 _ _ h
      · have h := ie h c
        refine r_iconst (pc := 92) dX12_clash_92 kc_iconst_1 ?_
        refine r_goto (pc := 93) (tgt := 97) dX12_clash_93 rfl ?_
        refine r_iadd (pc := 97) dX12_clash_97 ?_
        refine r_istore_n (pc := 98) (L' := [(1, vI (x1 + (1 : Int32))), (0, vR (some t)), (2, vI x2), (3, vI x3), (4, vI x4), (5, vI x5)]) dX12_clash_98 rfl (by decide) rfl ?_
        refine r_iinc (pc := 99) (v := (x2 + (1 : Int32))) (L' := [(2, vI (x2 + (1 : Int32))), (1, vI (x1 + (1 : Int32))), (0, vR (some t)), (3, vI x3), (4, vI x4), (5, vI x5)]) dX12_clash_99 2 rfl (kc_inc_1 _) (by decide) rfl ?_
        refine r_goto (pc := 102) (tgt := 4) dX12_clash_102 rfl ?_
        refine r_sub [2, 1, 0] rfl ?_
        exact hq4 _ _ h
    · have h := ie h c
      refine r_iload (pc := 41) dX12_clash_41 4 rfl ?_
      refine r_ifne (pc := 43) (tgt := 73) dX12_clash_43 rfl (fun c => ?_) (fun c => ?_)
      · have h := ie h c
        refine r_iconst (pc := 73) dX12_clash_73 kc_iconst_1 ?_
        refine r_goto (pc := 74) (tgt := 78) dX12_clash_74 rfl ?_
        refine r_istore (pc := 78) (L' := [(4, vI (1 : Int32)), (0, vR (some t)), (1, vI x1), (2, vI x2), (3, vI x3), (5, vI x5)]) dX12_clash_78 (by decide) rfl ?_
        refine r_iinc (pc := 80) (v := (x5 + (1 : Int32))) (L' := [(5, vI (x5 + (1 : Int32))), (4, vI (1 : Int32)), (0, vR (some t)), (1, vI x1), (2, vI x2), (3, vI x3)]) dX12_clash_80 5 rfl (kc_inc_1 _) (by decide) rfl ?_
        refine r_goto (pc := 83) (tgt := 34) dX12_clash_83 rfl ?_
        refine r_sub [2, 3, 4, 5, 1, 0] rfl ?_
        exact ih _ _ _ _ _ h
      · have h := it h c
        refine r_aload_n (pc := 46) dX12_clash_46 rfl 0 rfl ?_
        obtain ⟨g14, h⟩ := gd h
        obtain ⟨a15, ha15, h⟩ := ob h
        refine r_getS (pc := 47) dX12_clash_47 fgX12_290 rfl g14 ha15 ?_
        refine r_bipush (pc := 50) dX12_clash_50 kc_bipush_64 ?_
        refine r_iload_n (pc := 52) dX12_clash_52 rfl 2 rfl ?_
        refine r_imul (pc := 53) dX12_clash_53 ?_
        refine r_iload (pc := 54) dX12_clash_54 5 rfl ?_
        refine r_iadd (pc := 56) dX12_clash_56 ?_
        obtain ⟨g16, h⟩ := gd h
        obtain ⟨g17, h⟩ := gd h
        refine r_iaload (pc := 57) dX12_clash_57 g16 g17 ?_
        refine r_aload_n (pc := 58) dX12_clash_58 rfl 0 rfl ?_
        refine r_getS (pc := 59) dX12_clash_59 fgX12_290 rfl g14 ha15 ?_
        refine r_bipush (pc := 62) dX12_clash_62 kc_bipush_64 ?_
        refine r_iload_n (pc := 64) dX12_clash_64 rfl 3 rfl ?_
        refine r_imul (pc := 65) dX12_clash_65 ?_
        refine r_iload (pc := 66) dX12_clash_66 5 rfl ?_
        refine r_iadd (pc := 68) dX12_clash_68 ?_
        obtain ⟨g18, h⟩ := gd h
        refine r_iaload (pc := 69) dX12_clash_69 g16 g18 ?_
        refine r_icmp_eq (pc := 70) (tgt := 77) dX12_clash_70 rfl (fun c => ?_) (fun c => ?_)
        · have h := it h c
          refine r_iconst (pc := 77) dX12_clash_77 kc_iconst_0 ?_
          refine r_istore (pc := 78) (L' := [(4, vI (0 : Int32)), (0, vR (some t)), (1, vI x1), (2, vI x2), (3, vI x3), (5, vI x5)]) dX12_clash_78 (by decide) rfl ?_
          refine r_iinc (pc := 80) (v := (x5 + (1 : Int32))) (L' := [(5, vI (x5 + (1 : Int32))), (4, vI (0 : Int32)), (0, vR (some t)), (1, vI x1), (2, vI x2), (3, vI x3)]) dX12_clash_80 5 rfl (kc_inc_1 _) (by decide) rfl ?_
          refine r_goto (pc := 83) (tgt := 34) dX12_clash_83 rfl ?_
          refine r_sub [2, 3, 4, 5, 1, 0] rfl ?_
          exact ih _ _ _ _ _ h
        · have h := ie h c
          refine r_iconst (pc := 73) dX12_clash_73 kc_iconst_1 ?_
          refine r_goto (pc := 74) (tgt := 78) dX12_clash_74 rfl ?_
          refine r_istore (pc := 78) (L' := [(4, vI (1 : Int32)), (0, vR (some t)), (1, vI x1), (2, vI x2), (3, vI x3), (5, vI x5)]) dX12_clash_78 (by decide) rfl ?_
          refine r_iinc (pc := 80) (v := (x5 + (1 : Int32))) (L' := [(5, vI (x5 + (1 : Int32))), (4, vI (1 : Int32)), (0, vR (some t)), (1, vI x1), (2, vI x2), (3, vI x3)]) dX12_clash_80 5 rfl (kc_inc_1 _) (by decide) rfl ?_
          refine r_goto (pc := 83) (tgt := 34) dX12_clash_83 rfl ?_
          refine r_sub [2, 3, 4, 5, 1, 0] rfl ?_
          exact ih _ _ _ _ _ h
def fX12_clash_l4  (σ : Shp) (I : Nat → Nat → Int32) (R : Nat → Nat → Option Nat) (t : Nat) : Nat → (Int32) → (Int32) → Option ((Int32))
  | 0, _, _ => none
  | n + 1, x1, x2 =>
    if (20 : Int32) ≤ x2 then
      some x1
    else
      if kdx σ t = 13 then
      (fX12_isWhole σ I R t x2).bind fun r2 =>
      if r2 = 0 then
        let v4 := x2 + (1 : Int32)
        fX12_clash_l4 σ I R t n x1 v4
      else
        (fX12_numberOf σ I R t x2).bind fun r5 =>
        (fX12_pageOf σ I R t r5).bind fun r7 =>
        fX12_clash_l34 (fX12_clash_l4 σ I R t n) σ I R t FUx x1 x2 r7 (0 : Int32) (0 : Int32)
      else none
theorem wX12_clash_l4 {G : Gx} {l : Launch} {σ : Shp} {I : Nat → Nat → Int32} {J : Nat → Nat → Int64} {D : Nat → Nat → UInt64} {R : Nat → Nat → Option Nat} {t : Nat} {r9 : Int32} : ∀ (n : Nat) (x1 : Int32) (x2 : Int32), fX12_clash_l4 σ I R t n x1 x2 = some r9 → WX12_clash G l σ (σ, I, J, D, R) (some (vI r9)) (σ, I, J, D, R) 4 [(0, vR (some t)), (1, vI x1), (2, vI x2)] [] := by
  intro n
  induction n with
  | zero =>
    intro x1 x2 h
    have h : none = some _ := h
    cases h
  | succ n ih =>
    intro x1 x2 h
    rw [fX12_clash_l4] at h
    refine r_iload_n (pc := 4) dX12_clash_4 rfl 2 rfl ?_
    refine r_bipush (pc := 5) dX12_clash_5 kc_bipush_20 ?_
    refine r_icmp_ge (pc := 7) (tgt := 105) dX12_clash_7 rfl (fun c => ?_) (fun c => ?_)
    · have h := it h c
      refine r_iload_n (pc := 105) dX12_clash_105 rfl 1 rfl ?_
      cases h
      exact r_iret dX12_clash_106
    · have h := ie h c
      refine r_aload_n (pc := 10) dX12_clash_10 rfl 0 rfl ?_
      refine r_iload_n (pc := 11) dX12_clash_11 rfl 2 rfl ?_
      obtain ⟨g1, h⟩ := gd h
      obtain ⟨r2, hc3, h⟩ := ob h
      refine r_callV1 (pc := 12) (av := [vI x2]) (S := []) dX12_clash_12 (kX12_isWhole hc3) g1 rfl mkX12_811 mwX12_isWhole rfl ⟨Nat.le_of_ble_eq_true rfl, Nat.le_of_ble_eq_true rfl⟩ (Nat.le_of_ble_eq_true rfl) ⟨Nat.le_refl _, Nat.le_refl _⟩ (fun b => b) ?_
      refine r_if_eq (pc := 15) (tgt := 99) dX12_clash_15 rfl (fun c => ?_) (fun c => ?_)
      · have h := it h c
        refine r_iinc (pc := 99) (v := (x2 + (1 : Int32))) (L' := [(2, vI (x2 + (1 : Int32))), (0, vR (some t)), (1, vI x1)]) dX12_clash_99 2 rfl (kc_inc_1 _) (by decide) rfl ?_
        refine r_goto (pc := 102) (tgt := 4) dX12_clash_102 rfl ?_
        refine r_sub [1, 2, 0] rfl ?_
        exact ih _ _ h
      · have h := ie h c
        refine r_aload_n (pc := 18) dX12_clash_18 rfl 0 rfl ?_
        refine r_aload_n (pc := 19) dX12_clash_19 rfl 0 rfl ?_
        refine r_iload_n (pc := 20) dX12_clash_20 rfl 2 rfl ?_
        obtain ⟨r5, hc6, h⟩ := ob h
        refine r_callV1 (pc := 21) (av := [vI x2]) (S := [vR (some t)]) dX12_clash_21 (kX12_numberOf hc6) g1 rfl mkX12_808 mwX12_numberOf rfl ⟨Nat.le_of_ble_eq_true rfl, Nat.le_of_ble_eq_true rfl⟩ (Nat.le_of_ble_eq_true rfl) ⟨Nat.le_refl _, Nat.le_refl _⟩ (fun b => b) ?_
        obtain ⟨r7, hc8, h⟩ := ob h
        refine r_callV1 (pc := 24) (av := [vI r5]) (S := []) dX12_clash_24 (kX12_pageOf hc8) g1 rfl mkX12_820 mwX12_pageOf rfl ⟨Nat.le_of_ble_eq_true rfl, Nat.le_of_ble_eq_true rfl⟩ (Nat.le_of_ble_eq_true rfl) ⟨Nat.le_refl _, Nat.le_refl _⟩ (fun b => b) ?_
        refine r_istore_n (pc := 27) (L' := [(3, vI r7), (0, vR (some t)), (1, vI x1), (2, vI x2)]) dX12_clash_27 rfl (by decide) rfl ?_
        refine r_iconst (pc := 28) dX12_clash_28 kc_iconst_0 ?_
        refine r_istore (pc := 29) (L' := [(4, vI (0 : Int32)), (3, vI r7), (0, vR (some t)), (1, vI x1), (2, vI x2)]) dX12_clash_29 (by decide) rfl ?_
        refine r_iconst (pc := 31) dX12_clash_31 kc_iconst_0 ?_
        refine r_istore (pc := 32) (L' := [(5, vI (0 : Int32)), (4, vI (0 : Int32)), (3, vI r7), (0, vR (some t)), (1, vI x1), (2, vI x2)]) dX12_clash_32 (by decide) rfl ?_
        refine r_sub [3, 4, 5, 2, 1, 0] rfl ?_
        exact wX12_clash_l34 ih _ _ _ _ _ _ h
def fX12_clash (σ : Shp) (I : Nat → Nat → Int32) (R : Nat → Nat → Option Nat) (t : Nat)  : Option ((Int32)) :=
  fX12_clash_l4 σ I R t FUx (0 : Int32) (0 : Int32)
theorem kX12_clash {G : Gx} {l : Launch} {σ : Shp} {I : Nat → Nat → Int32} {J : Nat → Nat → Int64} {D : Nat → Nat → UInt64} {R : Nat → Nat → Option Nat} {t : Nat}  {r9 : Int32} (h : fX12_clash σ I R t = some r9) : Con G l yX12_clash cX12_clash 6 (some .int) 4 96 [vR (some t)] (σ, I, J, D, R) (σ, I, J, D, R) (some (vI r9)) := by
  unfold fX12_clash at h
  refine Con.mk (by decide +kernel) rfl (Nat.le_of_ble_eq_true rfl) ?_
  show WX12_clash G l σ (σ, I, J, D, R) (some (vI r9)) (σ, I, J, D, R) 0 _ []
  refine r_iconst (pc := 0) dX12_clash_0 kc_iconst_0 ?_
  refine r_istore_n (pc := 1) (L' := [(1, vI (0 : Int32)), (0, vR (some t))]) dX12_clash_1 rfl (by decide) rfl ?_
  refine r_iconst (pc := 2) dX12_clash_2 kc_iconst_0 ?_
  refine r_istore_n (pc := 3) (L' := [(2, vI (0 : Int32)), (1, vI (0 : Int32)), (0, vR (some t))]) dX12_clash_3 rfl (by decide) rfl ?_
  refine r_sub [2, 1, 0] rfl ?_
  exact wX12_clash_l4 _ _ _ h
abbrev WX12_octet (G : Gx) (l : Launch) (σ0 : Shp) (X1 : Stt) (rv : Option SV) : Stt → Nat → List (Nat × SV) → List SV → Prop := Wm G l yX12_octet cX12_octet 3 (some .int) (fun _ => True) (rmx 1 22 σ0 X1.1) σ0 (Qmx G σ0 X1 rv)
def fX12_octet (σ : Shp) (I : Nat → Nat → Int32) (R : Nat → Nat → Option Nat) (t : Nat) (x1 : Int32) (x2 : Int32) : Option ((Int32)) :=
  if (fX12_in x1 (0 : Int32) (19 : Int32)) = 0 then
    some (-2 : Int32)
  else
    if (fX12_in x2 (0 : Int32) (63 : Int32)) = 0 then
      some (-2 : Int32)
    else
      if kdx σ t = 13 then
      ((R t 127) : Option Nat).bind fun a2 =>
      if kdx σ a2 = 20 then
      if ¬ ((((64 : Int32) * x1) + x2) < 0 ∨ lnx σ a2 ≤ Int32.toNatClampNeg (((64 : Int32) * x1) + x2)) then
      some (I a2 (Int32.toNatClampNeg (((64 : Int32) * x1) + x2)))
      else none
      else none
      else none
theorem kX12_octet {G : Gx} {l : Launch} {σ : Shp} {I : Nat → Nat → Int32} {J : Nat → Nat → Int64} {D : Nat → Nat → UInt64} {R : Nat → Nat → Option Nat} {t : Nat} {x1 : Int32} {x2 : Int32} {r9 : Int32} (h : fX12_octet σ I R t x1 x2 = some r9) : Con G l yX12_octet cX12_octet 3 (some .int) 1 22 [vR (some t), vI x1, vI x2] (σ, I, J, D, R) (σ, I, J, D, R) (some (vI r9)) := by
  unfold fX12_octet at h
  refine Con.mk (by decide +kernel) rfl (Nat.le_of_ble_eq_true rfl) ?_
  show WX12_octet G l σ (σ, I, J, D, R) (some (vI r9)) (σ, I, J, D, R) 0 _ []
  refine r_iload_n (pc := 0) dX12_octet_0 rfl 1 rfl ?_
  refine r_iconst (pc := 1) dX12_octet_1 kc_iconst_0 ?_
  refine r_bipush (pc := 2) dX12_octet_2 kc_bipush_19 ?_
  refine r_callS1 (pc := 4) (av := [vI x1, vI (0 : Int32), vI (19 : Int32)]) (S := []) dX12_octet_4 (kX12_in rfl) mkX12_322 mwX12_in rfl ⟨Nat.le_of_ble_eq_true rfl, Nat.le_of_ble_eq_true rfl⟩ (Nat.le_of_ble_eq_true rfl) ⟨Nat.le_refl _, Nat.le_refl _⟩ (fun b => b) ?_
  refine r_if_eq (pc := 7) (tgt := 34) dX12_octet_7 rfl (fun c => ?_) (fun c => ?_)
  · have h := it h c
    refine r_bipush (pc := 34) dX12_octet_34 kc_bipush_m2 ?_
    cases h
    exact r_iret dX12_octet_36
  · have h := ie h c
    refine r_iload_n (pc := 10) dX12_octet_10 rfl 2 rfl ?_
    refine r_iconst (pc := 11) dX12_octet_11 kc_iconst_0 ?_
    refine r_bipush (pc := 12) dX12_octet_12 kc_bipush_63 ?_
    refine r_callS1 (pc := 14) (av := [vI x2, vI (0 : Int32), vI (63 : Int32)]) (S := []) dX12_octet_14 (kX12_in rfl) mkX12_322 mwX12_in rfl ⟨Nat.le_of_ble_eq_true rfl, Nat.le_of_ble_eq_true rfl⟩ (Nat.le_of_ble_eq_true rfl) ⟨Nat.le_refl _, Nat.le_refl _⟩ (fun b => b) ?_
    refine r_if_eq (pc := 17) (tgt := 34) dX12_octet_17 rfl (fun c => ?_) (fun c => ?_)
    · have h := it h c
      refine r_bipush (pc := 34) dX12_octet_34 kc_bipush_m2 ?_
      cases h
      exact r_iret dX12_octet_36
    · have h := ie h c
      refine r_aload_n (pc := 20) dX12_octet_20 rfl 0 rfl ?_
      obtain ⟨g1, h⟩ := gd h
      obtain ⟨a2, ha2, h⟩ := ob h
      refine r_getS (pc := 21) dX12_octet_21 fgX12_290 rfl g1 ha2 ?_
      refine r_bipush (pc := 24) dX12_octet_24 kc_bipush_64 ?_
      refine r_iload_n (pc := 26) dX12_octet_26 rfl 1 rfl ?_
      refine r_imul (pc := 27) dX12_octet_27 ?_
      refine r_iload_n (pc := 28) dX12_octet_28 rfl 2 rfl ?_
      refine r_iadd (pc := 29) dX12_octet_29 ?_
      obtain ⟨g3, h⟩ := gd h
      obtain ⟨g4, h⟩ := gd h
      refine r_iaload (pc := 30) dX12_octet_30 g3 g4 ?_
      refine r_goto (pc := 31) (tgt := 36) dX12_octet_31 rfl ?_
      cases h
      exact r_iret dX12_octet_36
abbrev WX12_damage (G : Gx) (l : Launch) (σ0 : Shp) (X1 : Stt) (rv : Option SV) : Stt → Nat → List (Nat × SV) → List SV → Prop := Wm G l yX12_damage cX12_damage 4 (some .int) (fun _ => True) (rmx 1 22 σ0 X1.1) σ0 (Qmx G σ0 X1 rv)
def fX12_damage (σ : Shp) (I : Nat → Nat → Int32) (R : Nat → Nat → Option Nat) (t : Nat) (x1 : Int32) (x2 : Int32) (x3 : Int32) : Option ((Nat → Nat → Int32) × (Int32)) :=
  if (fX12_in x1 (0 : Int32) (19 : Int32)) = 0 then
    some (I, (-2 : Int32))
  else
    if (fX12_in x2 (0 : Int32) (63 : Int32)) = 0 then
      some (I, (-2 : Int32))
    else
      if (fX12_in x3 (0 : Int32) (255 : Int32)) = 0 then
        some (I, (-2 : Int32))
      else
        if kdx σ t = 13 then
        ((R t 127) : Option Nat).bind fun a2 =>
        if kdx σ a2 = 20 then
        if ¬ ((((64 : Int32) * x1) + x2) < 0 ∨ lnx σ a2 ≤ Int32.toNatClampNeg (((64 : Int32) * x1) + x2)) then
        let I5 := u2 I a2 (Int32.toNatClampNeg (((64 : Int32) * x1) + x2)) ((I a2 (Int32.toNatClampNeg (((64 : Int32) * x1) + x2))) ^^^ x3)
        some (I5, (I5 a2 (Int32.toNatClampNeg (((64 : Int32) * x1) + x2))))
        else none
        else none
        else none
theorem kX12_damage {G : Gx} {l : Launch} {σ : Shp} {I : Nat → Nat → Int32} {J : Nat → Nat → Int64} {D : Nat → Nat → UInt64} {R : Nat → Nat → Option Nat} {t : Nat} {x1 : Int32} {x2 : Int32} {x3 : Int32} {I9 : Nat → Nat → Int32} {r9 : Int32} (h : fX12_damage σ I R t x1 x2 x3 = some (I9, r9)) : Con G l yX12_damage cX12_damage 4 (some .int) 1 22 [vR (some t), vI x1, vI x2, vI x3] (σ, I, J, D, R) (σ, I9, J, D, R) (some (vI r9)) := by
  unfold fX12_damage at h
  refine Con.mk (by decide +kernel) rfl (Nat.le_of_ble_eq_true rfl) ?_
  show WX12_damage G l σ (σ, I9, J, D, R) (some (vI r9)) (σ, I, J, D, R) 0 _ []
  refine r_iload_n (pc := 0) dX12_damage_0 rfl 1 rfl ?_
  refine r_iconst (pc := 1) dX12_damage_1 kc_iconst_0 ?_
  refine r_bipush (pc := 2) dX12_damage_2 kc_bipush_19 ?_
  refine r_callS1 (pc := 4) (av := [vI x1, vI (0 : Int32), vI (19 : Int32)]) (S := []) dX12_damage_4 (kX12_in rfl) mkX12_322 mwX12_in rfl ⟨Nat.le_of_ble_eq_true rfl, Nat.le_of_ble_eq_true rfl⟩ (Nat.le_of_ble_eq_true rfl) ⟨Nat.le_refl _, Nat.le_refl _⟩ (fun b => b) ?_
  refine r_if_eq (pc := 7) (tgt := 31) dX12_damage_7 rfl (fun c => ?_) (fun c => ?_)
  · have h := it h c
    refine r_bipush (pc := 31) dX12_damage_31 kc_bipush_m2 ?_
    cases h
    exact r_iret dX12_damage_33
  · have h := ie h c
    refine r_iload_n (pc := 10) dX12_damage_10 rfl 2 rfl ?_
    refine r_iconst (pc := 11) dX12_damage_11 kc_iconst_0 ?_
    refine r_bipush (pc := 12) dX12_damage_12 kc_bipush_63 ?_
    refine r_callS1 (pc := 14) (av := [vI x2, vI (0 : Int32), vI (63 : Int32)]) (S := []) dX12_damage_14 (kX12_in rfl) mkX12_322 mwX12_in rfl ⟨Nat.le_of_ble_eq_true rfl, Nat.le_of_ble_eq_true rfl⟩ (Nat.le_of_ble_eq_true rfl) ⟨Nat.le_refl _, Nat.le_refl _⟩ (fun b => b) ?_
    refine r_if_eq (pc := 17) (tgt := 31) dX12_damage_17 rfl (fun c => ?_) (fun c => ?_)
    · have h := it h c
      refine r_bipush (pc := 31) dX12_damage_31 kc_bipush_m2 ?_
      cases h
      exact r_iret dX12_damage_33
    · have h := ie h c
      refine r_iload_n (pc := 20) dX12_damage_20 rfl 3 rfl ?_
      refine r_iconst (pc := 21) dX12_damage_21 kc_iconst_0 ?_
      refine r_sipush (pc := 22) dX12_damage_22 kc_sipush_255 ?_
      refine r_callS1 (pc := 25) (av := [vI x3, vI (0 : Int32), vI (255 : Int32)]) (S := []) dX12_damage_25 (kX12_in rfl) mkX12_322 mwX12_in rfl ⟨Nat.le_of_ble_eq_true rfl, Nat.le_of_ble_eq_true rfl⟩ (Nat.le_of_ble_eq_true rfl) ⟨Nat.le_refl _, Nat.le_refl _⟩ (fun b => b) ?_
      refine r_ifne (pc := 28) (tgt := 34) dX12_damage_28 rfl (fun c => ?_) (fun c => ?_)
      · have h := ie h c
        refine r_aload_n (pc := 34) dX12_damage_34 rfl 0 rfl ?_
        obtain ⟨g1, h⟩ := gd h
        obtain ⟨a2, ha2, h⟩ := ob h
        refine r_getS (pc := 35) dX12_damage_35 fgX12_290 rfl g1 ha2 ?_
        refine r_bipush (pc := 38) dX12_damage_38 kc_bipush_64 ?_
        refine r_iload_n (pc := 40) dX12_damage_40 rfl 1 rfl ?_
        refine r_imul (pc := 41) dX12_damage_41 ?_
        refine r_iload_n (pc := 42) dX12_damage_42 rfl 2 rfl ?_
        refine r_iadd (pc := 43) dX12_damage_43 ?_
        refine r_aload_n (pc := 44) dX12_damage_44 rfl 0 rfl ?_
        refine r_getS (pc := 45) dX12_damage_45 fgX12_290 rfl g1 ha2 ?_
        refine r_bipush (pc := 48) dX12_damage_48 kc_bipush_64 ?_
        refine r_iload_n (pc := 50) dX12_damage_50 rfl 1 rfl ?_
        refine r_imul (pc := 51) dX12_damage_51 ?_
        refine r_iload_n (pc := 52) dX12_damage_52 rfl 2 rfl ?_
        refine r_iadd (pc := 53) dX12_damage_53 ?_
        obtain ⟨g3, h⟩ := gd h
        obtain ⟨g4, h⟩ := gd h
        refine r_iaload (pc := 54) dX12_damage_54 g3 g4 ?_
        refine r_iload_n (pc := 55) dX12_damage_55 rfl 3 rfl ?_
        refine r_ixor (pc := 56) dX12_damage_56 ?_
        refine r_iastore (pc := 57) dX12_damage_57 g3 g4 ?_
        refine r_aload_n (pc := 58) dX12_damage_58 rfl 0 rfl ?_
        refine r_getS (pc := 59) dX12_damage_59 fgX12_290 rfl g1 ha2 ?_
        refine r_bipush (pc := 62) dX12_damage_62 kc_bipush_64 ?_
        refine r_iload_n (pc := 64) dX12_damage_64 rfl 1 rfl ?_
        refine r_imul (pc := 65) dX12_damage_65 ?_
        refine r_iload_n (pc := 66) dX12_damage_66 rfl 2 rfl ?_
        refine r_iadd (pc := 67) dX12_damage_67 ?_
        refine r_iaload (pc := 68) dX12_damage_68 g3 g4 ?_
        cases h
        exact r_iret dX12_damage_69
      · have h := it h c
        refine r_bipush (pc := 31) dX12_damage_31 kc_bipush_m2 ?_
        cases h
        exact r_iret dX12_damage_33
abbrev WX12_told (G : Gx) (l : Launch) (σ0 : Shp) (X1 : Stt) (rv : Option SV) : Stt → Nat → List (Nat × SV) → List SV → Prop := Wm G l yX12_told cX12_told 2 (some .int) (fun _ => True) (rmx 5 121 σ0 X1.1) σ0 (Qmx G σ0 X1 rv)
def fX12_told (σ : Shp) (I : Nat → Nat → Int32) (R : Nat → Nat → Option Nat) (t : Nat) (x1 : Int32) : Option ((Int32)) :=
  if x1 = (0 : Int32) then
    if kdx σ t = 13 then
    some (I t 85)
    else none
  else
  if x1 = (1 : Int32) then
    if kdx σ t = 13 then
    some (I t 0)
    else none
  else
  if x1 = (2 : Int32) then
    if kdx σ t = 13 then
    some (I t 1)
    else none
  else
  if x1 = (3 : Int32) then
    if kdx σ t = 13 then
    some (I t 129)
    else none
  else
  if x1 = (4 : Int32) then
    if kdx σ t = 13 then
    some (I t 130)
    else none
  else
  if x1 = (5 : Int32) then
    if kdx σ t = 13 then
    if (I t 131) = 0 then
      some (0 : Int32)
    else
      some (1 : Int32)
    else none
  else
  if x1 = (6 : Int32) then
    if kdx σ t = 13 then
    (fX12_clash σ I R t).bind fun r25 =>
    some r25
    else none
  else
  if x1 = (7 : Int32) then
    if kdx σ t = 13 then
    some (I t 125)
    else none
  else
  if x1 = (8 : Int32) then
    if kdx σ t = 13 then
    (fX12_readMany σ I R t).bind fun r21 =>
    some r21
    else none
  else
  if x1 = (9 : Int32) then
    if kdx σ t = 13 then
    ((R t 33) : Option Nat).bind fun a14 =>
    if kdx σ a14 = 20 then
    if ¬ ((0 : Int32) < 0 ∨ lnx σ a14 ≤ Int32.toNatClampNeg (0 : Int32)) then
    if ¬ ((1 : Int32) < 0 ∨ lnx σ a14 ≤ Int32.toNatClampNeg (1 : Int32)) then
    if ¬ ((2 : Int32) < 0 ∨ lnx σ a14 ≤ Int32.toNatClampNeg (2 : Int32)) then
    if ¬ ((3 : Int32) < 0 ∨ lnx σ a14 ≤ Int32.toNatClampNeg (3 : Int32)) then
    some ((((I a14 (Int32.toNatClampNeg (0 : Int32))) + (I a14 (Int32.toNatClampNeg (1 : Int32)))) + (I a14 (Int32.toNatClampNeg (2 : Int32)))) + (I a14 (Int32.toNatClampNeg (3 : Int32))))
    else none
    else none
    else none
    else none
    else none
    else none
  else
  if x1 = (10 : Int32) then
    if kdx σ t = 13 then
    some (I t 83)
    else none
  else
  some (-2 : Int32)
theorem kX12_told {G : Gx} {l : Launch} {σ : Shp} {I : Nat → Nat → Int32} {J : Nat → Nat → Int64} {D : Nat → Nat → UInt64} {R : Nat → Nat → Option Nat} {t : Nat} {x1 : Int32} {r9 : Int32} (h : fX12_told σ I R t x1 = some r9) : Con G l yX12_told cX12_told 2 (some .int) 5 121 [vR (some t), vI x1] (σ, I, J, D, R) (σ, I, J, D, R) (some (vI r9)) := by
  unfold fX12_told at h
  refine Con.mk (by decide +kernel) rfl (Nat.le_of_ble_eq_true rfl) ?_
  show WX12_told G l σ (σ, I, J, D, R) (some (vI r9)) (σ, I, J, D, R) 0 _ []
  refine r_iload_n (pc := 0) dX12_told_0 rfl 1 rfl ?_
  rcases itc h with ⟨c1, h⟩ | ⟨c1, h⟩
  · refine r_tsIn (x := x1) (pc := 1) (tgt := 60) dX12_told_1 (by rw [c1]; decide) (by rw [c1]; decide) (by rw [c1]; rfl) rfl ?_
    refine r_aload_n (pc := 60) dX12_told_60 rfl 0 rfl ?_
    obtain ⟨g32, h⟩ := gd h
    refine r_getI (pc := 61) dX12_told_61 fgX12_643 rfl g32 ?_
    cases h
    exact r_iret dX12_told_64
  · rcases itc h with ⟨c2, h⟩ | ⟨c2, h⟩
    · refine r_tsIn (x := x1) (pc := 1) (tgt := 65) dX12_told_1 (by rw [c2]; decide) (by rw [c2]; decide) (by rw [c2]; rfl) rfl ?_
      refine r_aload_n (pc := 65) dX12_told_65 rfl 0 rfl ?_
      obtain ⟨g31, h⟩ := gd h
      refine r_getI (pc := 66) dX12_told_66 fgX12_302 rfl g31 ?_
      cases h
      exact r_iret dX12_told_69
    · rcases itc h with ⟨c3, h⟩ | ⟨c3, h⟩
      · refine r_tsIn (x := x1) (pc := 1) (tgt := 70) dX12_told_1 (by rw [c3]; decide) (by rw [c3]; decide) (by rw [c3]; rfl) rfl ?_
        refine r_aload_n (pc := 70) dX12_told_70 rfl 0 rfl ?_
        obtain ⟨g30, h⟩ := gd h
        refine r_getI (pc := 71) dX12_told_71 fgX12_299 rfl g30 ?_
        cases h
        exact r_iret dX12_told_74
      · rcases itc h with ⟨c4, h⟩ | ⟨c4, h⟩
        · refine r_tsIn (x := x1) (pc := 1) (tgt := 75) dX12_told_1 (by rw [c4]; decide) (by rw [c4]; decide) (by rw [c4]; rfl) rfl ?_
          refine r_aload_n (pc := 75) dX12_told_75 rfl 0 rfl ?_
          obtain ⟨g29, h⟩ := gd h
          refine r_getI (pc := 76) dX12_told_76 fgX12_792 rfl g29 ?_
          cases h
          exact r_iret dX12_told_79
        · rcases itc h with ⟨c5, h⟩ | ⟨c5, h⟩
          · refine r_tsIn (x := x1) (pc := 1) (tgt := 80) dX12_told_1 (by rw [c5]; decide) (by rw [c5]; decide) (by rw [c5]; rfl) rfl ?_
            refine r_aload_n (pc := 80) dX12_told_80 rfl 0 rfl ?_
            obtain ⟨g28, h⟩ := gd h
            refine r_getI (pc := 81) dX12_told_81 fgX12_789 rfl g28 ?_
            cases h
            exact r_iret dX12_told_84
          · rcases itc h with ⟨c6, h⟩ | ⟨c6, h⟩
            · refine r_tsIn (x := x1) (pc := 1) (tgt := 85) dX12_told_1 (by rw [c6]; decide) (by rw [c6]; decide) (by rw [c6]; rfl) rfl ?_
              refine r_aload_n (pc := 85) dX12_told_85 rfl 0 rfl ?_
              obtain ⟨g27, h⟩ := gd h
              refine r_getI (pc := 86) dX12_told_86 fgX12_786 rfl g27 ?_
              refine r_if_eq (pc := 89) (tgt := 96) dX12_told_89 rfl (fun c => ?_) (fun c => ?_)
              · have h := it h c
                refine r_iconst (pc := 96) dX12_told_96 kc_iconst_0 ?_
                cases h
                exact r_iret dX12_told_97
              · have h := ie h c
                refine r_iconst (pc := 92) dX12_told_92 kc_iconst_1 ?_
                refine r_goto (pc := 93) (tgt := 97) dX12_told_93 rfl ?_
                cases h
                exact r_iret dX12_told_97
            · rcases itc h with ⟨c7, h⟩ | ⟨c7, h⟩
              · refine r_tsIn (x := x1) (pc := 1) (tgt := 98) dX12_told_1 (by rw [c7]; decide) (by rw [c7]; decide) (by rw [c7]; rfl) rfl ?_
                refine r_aload_n (pc := 98) dX12_told_98 rfl 0 rfl ?_
                obtain ⟨g24, h⟩ := gd h
                obtain ⟨r25, hc26, h⟩ := ob h
                refine r_callV1 (pc := 99) (av := []) (S := []) dX12_told_99 (kX12_clash hc26) g24 rfl mkX12_823 mwX12_clash rfl ⟨Nat.le_of_ble_eq_true rfl, Nat.le_of_ble_eq_true rfl⟩ (Nat.le_of_ble_eq_true rfl) ⟨Nat.le_refl _, Nat.le_refl _⟩ (fun b => b) ?_
                cases h
                exact r_iret dX12_told_102
              · rcases itc h with ⟨c8, h⟩ | ⟨c8, h⟩
                · refine r_tsIn (x := x1) (pc := 1) (tgt := 103) dX12_told_1 (by rw [c8]; decide) (by rw [c8]; decide) (by rw [c8]; rfl) rfl ?_
                  refine r_aload_n (pc := 103) dX12_told_103 rfl 0 rfl ?_
                  obtain ⟨g23, h⟩ := gd h
                  refine r_getI (pc := 104) dX12_told_104 fgX12_769 rfl g23 ?_
                  cases h
                  exact r_iret dX12_told_107
                · rcases itc h with ⟨c9, h⟩ | ⟨c9, h⟩
                  · refine r_tsIn (x := x1) (pc := 1) (tgt := 108) dX12_told_1 (by rw [c9]; decide) (by rw [c9]; decide) (by rw [c9]; rfl) rfl ?_
                    refine r_aload_n (pc := 108) dX12_told_108 rfl 0 rfl ?_
                    obtain ⟨g20, h⟩ := gd h
                    obtain ⟨r21, hc22, h⟩ := ob h
                    refine r_callV1 (pc := 109) (av := []) (S := []) dX12_told_109 (kX12_readMany hc22) g20 rfl mkX12_817 mwX12_readMany rfl ⟨Nat.le_of_ble_eq_true rfl, Nat.le_of_ble_eq_true rfl⟩ (Nat.le_of_ble_eq_true rfl) ⟨Nat.le_refl _, Nat.le_refl _⟩ (fun b => b) ?_
                    cases h
                    exact r_iret dX12_told_112
                  · rcases itc h with ⟨c10, h⟩ | ⟨c10, h⟩
                    · refine r_tsIn (x := x1) (pc := 1) (tgt := 113) dX12_told_1 (by rw [c10]; decide) (by rw [c10]; decide) (by rw [c10]; rfl) rfl ?_
                      refine r_aload_n (pc := 113) dX12_told_113 rfl 0 rfl ?_
                      obtain ⟨g13, h⟩ := gd h
                      obtain ⟨a14, ha14, h⟩ := ob h
                      refine r_getS (pc := 114) dX12_told_114 fgX12_74 rfl g13 ha14 ?_
                      refine r_iconst (pc := 117) dX12_told_117 kc_iconst_0 ?_
                      obtain ⟨g15, h⟩ := gd h
                      obtain ⟨g16, h⟩ := gd h
                      refine r_iaload (pc := 118) dX12_told_118 g15 g16 ?_
                      refine r_aload_n (pc := 119) dX12_told_119 rfl 0 rfl ?_
                      refine r_getS (pc := 120) dX12_told_120 fgX12_74 rfl g13 ha14 ?_
                      refine r_iconst (pc := 123) dX12_told_123 kc_iconst_1 ?_
                      obtain ⟨g17, h⟩ := gd h
                      refine r_iaload (pc := 124) dX12_told_124 g15 g17 ?_
                      refine r_iadd (pc := 125) dX12_told_125 ?_
                      refine r_aload_n (pc := 126) dX12_told_126 rfl 0 rfl ?_
                      refine r_getS (pc := 127) dX12_told_127 fgX12_74 rfl g13 ha14 ?_
                      refine r_iconst (pc := 130) dX12_told_130 kc_iconst_2 ?_
                      obtain ⟨g18, h⟩ := gd h
                      refine r_iaload (pc := 131) dX12_told_131 g15 g18 ?_
                      refine r_iadd (pc := 132) dX12_told_132 ?_
                      refine r_aload_n (pc := 133) dX12_told_133 rfl 0 rfl ?_
                      refine r_getS (pc := 134) dX12_told_134 fgX12_74 rfl g13 ha14 ?_
                      refine r_iconst (pc := 137) dX12_told_137 kc_iconst_3 ?_
                      obtain ⟨g19, h⟩ := gd h
                      refine r_iaload (pc := 138) dX12_told_138 g15 g19 ?_
                      refine r_iadd (pc := 139) dX12_told_139 ?_
                      cases h
                      exact r_iret dX12_told_140
                    · rcases itc h with ⟨c11, h⟩ | ⟨c11, h⟩
                      · refine r_tsIn (x := x1) (pc := 1) (tgt := 141) dX12_told_1 (by rw [c11]; decide) (by rw [c11]; decide) (by rw [c11]; rfl) rfl ?_
                        refine r_aload_n (pc := 141) dX12_told_141 rfl 0 rfl ?_
                        obtain ⟨g12, h⟩ := gd h
                        refine r_getI (pc := 142) dX12_told_142 fgX12_617 rfl g12 ?_
                        cases h
                        exact r_iret dX12_told_145
                      · refine r_tsOut (x := x1) (pc := 1) (tgt := 146) dX12_told_1 (by have ec1 := i32n c1 (k := 0) rfl; have ec2 := i32n c2 (k := 1) rfl; have ec3 := i32n c3 (k := 2) rfl; have ec4 := i32n c4 (k := 3) rfl; have ec5 := i32n c5 (k := 4) rfl; have ec6 := i32n c6 (k := 5) rfl; have ec7 := i32n c7 (k := 6) rfl; have ec8 := i32n c8 (k := 7) rfl; have ec9 := i32n c9 (k := 8) rfl; have ec10 := i32n c10 (k := 9) rfl; have ec11 := i32n c11 (k := 10) rfl; omega) rfl ?_
                        refine r_bipush (pc := 146) dX12_told_146 kc_bipush_m2 ?_
                        cases h
                        exact r_iret dX12_told_148
abbrev WX12_fault (G : Gx) (l : Launch) (σ0 : Shp) (X1 : Stt) (rv : Option SV) : Stt → Nat → List (Nat × SV) → List SV → Prop := Wm G l yX12_fault cX12_fault 1 (some .int) (fun _ => True) (rmx 0 0 σ0 X1.1) σ0 (Qmx G σ0 X1 rv)
def fX12_fault (σ : Shp) (I : Nat → Nat → Int32) (t : Nat)  : Option ((Int32)) :=
  if kdx σ t = 13 then
  some (I t 2)
  else none
theorem kX12_fault {G : Gx} {l : Launch} {σ : Shp} {I : Nat → Nat → Int32} {J : Nat → Nat → Int64} {D : Nat → Nat → UInt64} {R : Nat → Nat → Option Nat} {t : Nat}  {r9 : Int32} (h : fX12_fault σ I t = some r9) : Con G l yX12_fault cX12_fault 1 (some .int) 0 0 [vR (some t)] (σ, I, J, D, R) (σ, I, J, D, R) (some (vI r9)) := by
  unfold fX12_fault at h
  refine Con.mk (by decide +kernel) rfl (Nat.le_of_ble_eq_true rfl) ?_
  show WX12_fault G l σ (σ, I, J, D, R) (some (vI r9)) (σ, I, J, D, R) 0 _ []
  refine r_aload_n (pc := 0) dX12_fault_0 rfl 0 rfl ?_
  obtain ⟨g1, h⟩ := gd h
  refine r_getI (pc := 1) dX12_fault_1 fgX12_305 rfl g1 ?_
  cases h
  exact r_iret dX12_fault_4
