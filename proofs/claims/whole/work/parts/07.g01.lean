abbrev WX2_solved (G : Gx) (l : Launch) (σ0 : Shp) (X1 : Stt) (rv : Option SV) : Stt → Nat → List (Nat × SV) → List SV → Prop := Wm G l yX2_solved cX2_solved 2 (some .int) (fun _ => True) (rmx 5 137 σ0 X1.1) σ0 (Qmx G σ0 X1 rv)
def fX2_solved_l31  (σ : Shp) (R : Nat → Nat → Option Nat) (t : Nat) : Nat → (Nat → Nat → Int32) → (Nat → Nat → Int64) → (Int32) → Option ((Nat → Nat → Int32) × (Nat → Nat → Int64) × (Int32))
  | 0, _, _, _ => none
  | n + 1, I, J, x1 =>
    if (3 : Int32) ≤ x1 then
      if kdx σ t = 3 then
      (fX2_tellFractions σ I J R t).bind fun (J10, r11) =>
      if r11 = 0 then
        some (I, J10, (2 : Int32))
      else
        some (I, J10, (1 : Int32))
      else none
    else
      if kdx σ t = 3 then
      ((R t 1) : Option Nat).bind fun a14 =>
      if kdx σ a14 = 29 then
      if ¬ (x1 < 0 ∨ lnx σ a14 ≤ Int32.toNatClampNeg x1) then
      ((R a14 (Int32.toNatClampNeg x1)) : Option Nat).bind fun a17 =>
      if kdx σ a17 = 21 then
      if ¬ ((4 : Int32) < 0 ∨ lnx σ a17 ≤ Int32.toNatClampNeg (4 : Int32)) then
      if (J a17 (Int32.toNatClampNeg (4 : Int32))) = (0 : Int64) then
        let v20 := x1 + (1 : Int32)
        fX2_solved_l31 σ R t n I J v20
      else
        (fX2_tellWitness σ J R t x1).bind fun J21 =>
        some (I, J21, (0 : Int32))
      else none
      else none
      else none
      else none
      else none
theorem wX2_solved_l31 {G : Gx} {l : Launch} {σ : Shp} {D : Nat → Nat → UInt64} {R : Nat → Nat → Option Nat} {t : Nat} {I9 : Nat → Nat → Int32} {J9 : Nat → Nat → Int64} {r9 : Int32} : ∀ (n : Nat) (I : Nat → Nat → Int32) (J : Nat → Nat → Int64) (x1 : Int32), fX2_solved_l31 σ R t n I J x1 = some (I9, J9, r9) → WX2_solved G l σ (σ, I9, J9, D, R) (some (vI r9)) (σ, I, J, D, R) 31 [(0, vR (some t)), (1, vI x1)] [] := by
  intro n
  induction n with
  | zero =>
    intro I J x1 h
    have h : none = some _ := h
    cases h
  | succ n ih =>
    intro I J x1 h
    rw [fX2_solved_l31] at h
    refine r_iload_n (pc := 31) dX2_solved_31 rfl 1 rfl ?_
    refine r_iconst (pc := 32) dX2_solved_32 kc_iconst_3 ?_
    refine r_icmp_ge (pc := 33) (tgt := 62) dX2_solved_33 rfl (fun c => ?_) (fun c => ?_)
    · have h := it h c
      refine r_aload_n (pc := 62) dX2_solved_62 rfl 0 rfl ?_
      obtain ⟨g9, h⟩ := gd h
      obtain ⟨⟨J10, r11⟩, hc12, h⟩ := ob h
      refine r_callV1 (pc := 63) (av := []) (S := []) dX2_solved_63 (kX2_tellFractions hc12) g9 rfl mkX2_53 mwX2_tellFractions rfl ⟨Nat.le_of_ble_eq_true rfl, Nat.le_of_ble_eq_true rfl⟩ (Nat.le_of_ble_eq_true rfl) ⟨Nat.le_refl _, Nat.le_refl _⟩ (fun b => b) ?_
      refine r_if_eq (pc := 66) (tgt := 73) dX2_solved_66 rfl (fun c => ?_) (fun c => ?_)
      · have h := it h c
        refine r_iconst (pc := 73) dX2_solved_73 kc_iconst_2 ?_
        cases h
        exact r_iret dX2_solved_74
      · have h := ie h c
        refine r_iconst (pc := 69) dX2_solved_69 kc_iconst_1 ?_
        refine r_goto (pc := 70) (tgt := 74) dX2_solved_70 rfl ?_
        cases h
        exact r_iret dX2_solved_74
    · have h := ie h c
      refine r_aload_n (pc := 36) dX2_solved_36 rfl 0 rfl ?_
      obtain ⟨g13, h⟩ := gd h
      obtain ⟨a14, ha14, h⟩ := ob h
      refine r_getS (pc := 37) dX2_solved_37 fgX2_16 rfl g13 ha14 ?_
      refine r_iload_n (pc := 40) dX2_solved_40 rfl 1 rfl ?_
      obtain ⟨g15, h⟩ := gd h
      obtain ⟨g16, h⟩ := gd h
      refine r_aaload (pc := 41) dX2_solved_41 g15 (by decide) g16 ?_
      obtain ⟨a17, ha17, h⟩ := ob h
      refine r_ref0 ha17 ?_
      refine r_iconst (pc := 42) dX2_solved_42 kc_iconst_4 ?_
      obtain ⟨g18, h⟩ := gd h
      obtain ⟨g19, h⟩ := gd h
      refine r_laload (pc := 43) dX2_solved_43 g18 g19 ?_
      refine r_lconst (pc := 44) dX2_solved_44 kc_lconst_0 ?_
      refine r_lcmp (pc := 45) dX2_solved_45 ?_
      refine r_if_eq (pc := 46) (tgt := 56) dX2_solved_46 rfl (fun c => ?_) (fun c => ?_)
      · have h := it h (lgc_eq.mp c)
        refine r_iinc (pc := 56) (v := (x1 + (1 : Int32))) (L' := [(1, vI (x1 + (1 : Int32))), (0, vR (some t))]) dX2_solved_56 1 rfl (kc_inc_1 _) (by decide) rfl ?_
        refine r_goto (pc := 59) (tgt := 31) dX2_solved_59 rfl ?_
        refine r_sub [1, 0] rfl ?_
        exact ih _ _ _ h
      · have h := ie h (fun q => c (lgc_eq.mpr q))
        refine r_aload_n (pc := 49) dX2_solved_49 rfl 0 rfl ?_
        refine r_iload_n (pc := 50) dX2_solved_50 rfl 1 rfl ?_
        obtain ⟨J21, hc22, h⟩ := ob h
        refine r_callV0 (pc := 51) (av := [vI x1]) (S := []) dX2_solved_51 (kX2_tellWitness hc22) g13 rfl mkX2_50 mwX2_tellWitness rfl ⟨Nat.le_of_ble_eq_true rfl, Nat.le_of_ble_eq_true rfl⟩ (Nat.le_of_ble_eq_true rfl) ⟨Nat.le_refl _, Nat.le_refl _⟩ (fun b => b) ?_
        refine r_iconst (pc := 54) dX2_solved_54 kc_iconst_0 ?_
        cases h
        exact r_iret dX2_solved_55
def fX2_solved_l10  (σ : Shp) (R : Nat → Nat → Option Nat) (t : Nat) : Nat → (Nat → Nat → Int32) → (Nat → Nat → Int64) → (Int32) → Option ((Nat → Nat → Int32) × (Nat → Nat → Int64) × (Int32))
  | 0, _, _, _ => none
  | n + 1, I, J, x1 =>
    if (4 : Int32) ≤ x1 then
      if kdx σ t = 3 then
      let v8 := (I t 7)
      fX2_solved_l31 σ R t FUx I J v8
      else none
    else
      if kdx σ t = 3 then
      (fX2_workColumn σ I J R t x1).bind fun (I24, J25) =>
      let v27 := x1 + (1 : Int32)
      fX2_solved_l10 σ R t n I24 J25 v27
      else none
theorem wX2_solved_l10 {G : Gx} {l : Launch} {σ : Shp} {D : Nat → Nat → UInt64} {R : Nat → Nat → Option Nat} {t : Nat} {I9 : Nat → Nat → Int32} {J9 : Nat → Nat → Int64} {r9 : Int32} : ∀ (n : Nat) (I : Nat → Nat → Int32) (J : Nat → Nat → Int64) (x1 : Int32), fX2_solved_l10 σ R t n I J x1 = some (I9, J9, r9) → WX2_solved G l σ (σ, I9, J9, D, R) (some (vI r9)) (σ, I, J, D, R) 10 [(0, vR (some t)), (1, vI x1)] [] := by
  intro n
  induction n with
  | zero =>
    intro I J x1 h
    have h : none = some _ := h
    cases h
  | succ n ih =>
    intro I J x1 h
    rw [fX2_solved_l10] at h
    refine r_iload_n (pc := 10) dX2_solved_10 rfl 1 rfl ?_
    refine r_iconst (pc := 11) dX2_solved_11 kc_iconst_4 ?_
    refine r_icmp_ge (pc := 12) (tgt := 26) dX2_solved_12 rfl (fun c => ?_) (fun c => ?_)
    · have h := it h c
      refine r_aload_n (pc := 26) dX2_solved_26 rfl 0 rfl ?_
      obtain ⟨g7, h⟩ := gd h
      refine r_getI (pc := 27) dX2_solved_27 fgX2_36 rfl g7 ?_
      refine r_istore_n (pc := 30) (L' := [(1, vI (I t 7)), (0, vR (some t))]) dX2_solved_30 rfl (by decide) rfl ?_
      refine r_sub [1, 0] rfl ?_
      exact wX2_solved_l31 _ _ _ _ h
    · have h := ie h c
      refine r_aload_n (pc := 15) dX2_solved_15 rfl 0 rfl ?_
      refine r_iload_n (pc := 16) dX2_solved_16 rfl 1 rfl ?_
      obtain ⟨g23, h⟩ := gd h
      obtain ⟨⟨I24, J25⟩, hc26, h⟩ := ob h
      refine r_callV0 (pc := 17) (av := [vI x1]) (S := []) dX2_solved_17 (kX2_workColumn hc26) g23 rfl mkX2_46 mwX2_workColumn rfl ⟨Nat.le_of_ble_eq_true rfl, Nat.le_of_ble_eq_true rfl⟩ (Nat.le_of_ble_eq_true rfl) ⟨Nat.le_refl _, Nat.le_refl _⟩ (fun b => b) ?_
      refine r_iinc (pc := 20) (v := (x1 + (1 : Int32))) (L' := [(1, vI (x1 + (1 : Int32))), (0, vR (some t))]) dX2_solved_20 1 rfl (kc_inc_1 _) (by decide) rfl ?_
      refine r_goto (pc := 23) (tgt := 10) dX2_solved_23 rfl ?_
      refine r_sub [1, 0] rfl ?_
      exact ih _ _ _ h
def fX2_solved (σ : Shp) (I : Nat → Nat → Int32) (J : Nat → Nat → Int64) (R : Nat → Nat → Option Nat) (t : Nat)  : Option ((Nat → Nat → Int32) × (Nat → Nat → Int64) × (Int32)) :=
  if kdx σ t = 3 then
  (fX2_clearOutcome σ I J R t).bind fun (I2, J3) =>
  (fX2_fillRows σ I2 J3 R t).bind fun J5 =>
  fX2_solved_l10 σ R t FUx I2 J5 (0 : Int32)
  else none
theorem kX2_solved {G : Gx} {l : Launch} {σ : Shp} {I : Nat → Nat → Int32} {J : Nat → Nat → Int64} {D : Nat → Nat → UInt64} {R : Nat → Nat → Option Nat} {t : Nat}  {I9 : Nat → Nat → Int32} {J9 : Nat → Nat → Int64} {r9 : Int32} (h : fX2_solved σ I J R t = some (I9, J9, r9)) : Con G l yX2_solved cX2_solved 2 (some .int) 5 137 [vR (some t)] (σ, I, J, D, R) (σ, I9, J9, D, R) (some (vI r9)) := by
  unfold fX2_solved at h
  refine Con.mk (by decide +kernel) rfl (Nat.le_of_ble_eq_true rfl) ?_
  show WX2_solved G l σ (σ, I9, J9, D, R) (some (vI r9)) (σ, I, J, D, R) 0 _ []
  refine r_aload_n (pc := 0) dX2_solved_0 rfl 0 rfl ?_
  obtain ⟨g1, h⟩ := gd h
  obtain ⟨⟨I2, J3⟩, hc4, h⟩ := ob h
  refine r_callV0 (pc := 1) (av := []) (S := []) dX2_solved_1 (kX2_clearOutcome hc4) g1 rfl mkX2_40 mwX2_clearOutcome rfl ⟨Nat.le_of_ble_eq_true rfl, Nat.le_of_ble_eq_true rfl⟩ (Nat.le_of_ble_eq_true rfl) ⟨Nat.le_refl _, Nat.le_refl _⟩ (fun b => b) ?_
  refine r_aload_n (pc := 4) dX2_solved_4 rfl 0 rfl ?_
  obtain ⟨J5, hc6, h⟩ := ob h
  refine r_callV0 (pc := 5) (av := []) (S := []) dX2_solved_5 (kX2_fillRows hc6) g1 rfl mkX2_43 mwX2_fillRows rfl ⟨Nat.le_of_ble_eq_true rfl, Nat.le_of_ble_eq_true rfl⟩ (Nat.le_of_ble_eq_true rfl) ⟨Nat.le_refl _, Nat.le_refl _⟩ (fun b => b) ?_
  refine r_iconst (pc := 8) dX2_solved_8 kc_iconst_0 ?_
  refine r_istore_n (pc := 9) (L' := [(1, vI (0 : Int32)), (0, vR (some t))]) dX2_solved_9 rfl (by decide) rfl ?_
  refine r_sub [1, 0] rfl ?_
  exact wX2_solved_l10 _ _ _ _ h
abbrev WX3_init (G : Gx) (l : Launch) (σ0 : Shp) (X1 : Stt) (rv : Option SV) : Stt → Nat → List (Nat × SV) → List SV → Prop := Wm G l yX3_init cX3_init 1 none (fun _ => True) (rmx 1 20 σ0 X1.1) σ0 (Qmx G σ0 X1 rv)
def fX3_init_b9  (σ : Shp) (R : Nat → Nat → Option Nat) (s0 : Nat) (s1 : Nat) : Option ((Shp) × (Nat → Nat → Option Nat)) :=
  if kdx σ s0 = 4 then
  let R3 := u2 R s0 12 (some s1)
  some (σ, R3)
  else none
theorem mX3_init_b9 {σ : Shp} {R : Nat → Nat → Option Nat} {σ9 : Shp} {R9 : Nat → Nat → Option Nat} {s0 : Nat} {s1 : Nat} (h : fX3_init_b9 σ R s0 s1 = some (σ9, R9)) : Lex σ σ9 := by
  unfold fX3_init_b9 at h
  replace h := (gd h).2
  cases h
  exact ⟨Nat.le_refl _, Nat.le_refl _⟩
theorem wX3_init_b9 {G : Gx} {l : Launch} {σ0 : Shp} {σ : Shp} {I : Nat → Nat → Int32} {J : Nat → Nat → Int64} {D : Nat → Nat → UInt64} {R : Nat → Nat → Option Nat} {σ9 : Shp} {R9 : Nat → Nat → Option Nat} {s0 : Nat} {s1 : Nat} (h : fX3_init_b9 σ R s0 s1 = some (σ9, R9)) : WX3_init G l σ0 (σ9, I, J, D, R9) none (σ, I, J, D, R) 9 [] [vR (some s1), vR (some s0)] := by
  unfold fX3_init_b9 at h
  obtain ⟨g2, h⟩ := gd h
  refine r_putRF (pc := 9) dX3_init_9 fwX3_9 rfl rfl g2 ?_
  cases h
  exact r_vret dX3_init_12
def fX3_init (σ : Shp) (R : Nat → Nat → Option Nat) (t : Nat)  : Option ((Shp) × (Nat → Nat → Option Nat)) :=
  let σ1 := mkA σ 20 (Int32.toNatClampNeg (6 : Int32))
  fX3_init_b9 σ1 R t (nxx σ + 4)
theorem mX3_init {σ : Shp} {R : Nat → Nat → Option Nat} {t : Nat}  {σ9 : Shp} {R9 : Nat → Nat → Option Nat} (h : fX3_init σ R t = some (σ9, R9)) : Lex σ σ9 := by
  unfold fX3_init at h
  exact Lex_mkA (mX3_init_b9 h)
theorem kX3_init {G : Gx} {l : Launch} {σ : Shp} {I : Nat → Nat → Int32} {J : Nat → Nat → Int64} {D : Nat → Nat → UInt64} {R : Nat → Nat → Option Nat} {t : Nat}  {σ9 : Shp} {R9 : Nat → Nat → Option Nat} (h : fX3_init σ R t = some (σ9, R9)) : Con G l yX3_init cX3_init 1 none 1 20 [vR (some t)] (σ, I, J, D, R) (σ9, I, J, D, R9) none := by
  unfold fX3_init at h
  refine Con.mk (by decide +kernel) rfl (Nat.le_of_ble_eq_true rfl) ?_
  show WX3_init G l σ (σ9, I, J, D, R9) none (σ, I, J, D, R) 0 _ []
  refine r_aload_n (pc := 0) dX3_init_0 rfl 0 rfl ?_
  refine r_objInit (pc := 1) (S := []) dX3_init_1 obX3_1 obI obC (Nat.le_of_ble_eq_true rfl) (Nat.le_of_ble_eq_true rfl) (Nat.le_of_ble_eq_true rfl) ?_
  refine r_aload_n (pc := 4) dX3_init_4 rfl 0 rfl ?_
  refine r_bipush (pc := 5) dX3_init_5 kc_bipush_6 ?_
  refine r_newa (pc := 7) (t := 20) (ti := 0) (ty := .int) dX3_init_7 rfl (by decide) ac20 (by decide) (by decide) (Nat.sub_le_sub_right (mX3_init_b9 h).1 _) (Nat.sub_le_sub_right (mX3_init_b9 h).2 _) ?_
  refine r_sub [] rfl ?_
  exact wX3_init_b9 h
abbrev WX9_init (G : Gx) (l : Launch) (σ0 : Shp) (X1 : Stt) (rv : Option SV) : Stt → Nat → List (Nat × SV) → List SV → Prop := Wm G l yX9_init cX9_init 1 none (fun _ => True) (rmx 1 20 σ0 X1.1) σ0 (Qmx G σ0 X1 rv)
def fX9_init_b65  (σ : Shp) (R : Nat → Nat → Option Nat) (s0 : Nat) (s1 : Nat) : Option ((Shp) × (Nat → Nat → Option Nat)) :=
  if kdx σ s0 = 10 then
  let R26 := u2 R s0 7 (some s1)
  some (σ, R26)
  else none
theorem mX9_init_b65 {σ : Shp} {R : Nat → Nat → Option Nat} {σ9 : Shp} {R9 : Nat → Nat → Option Nat} {s0 : Nat} {s1 : Nat} (h : fX9_init_b65 σ R s0 s1 = some (σ9, R9)) : Lex σ σ9 := by
  unfold fX9_init_b65 at h
  replace h := (gd h).2
  cases h
  exact ⟨Nat.le_refl _, Nat.le_refl _⟩
theorem wX9_init_b65 {G : Gx} {l : Launch} {σ0 : Shp} {σ : Shp} {I : Nat → Nat → Int32} {J : Nat → Nat → Int64} {D : Nat → Nat → UInt64} {R : Nat → Nat → Option Nat} {σ9 : Shp} {R9 : Nat → Nat → Option Nat} {s0 : Nat} {s1 : Nat} (h : fX9_init_b65 σ R s0 s1 = some (σ9, R9)) : WX9_init G l σ0 (σ9, I, J, D, R9) none (σ, I, J, D, R) 65 [] [vR (some s1), vR (some s0)] := by
  unfold fX9_init_b65 at h
  obtain ⟨g25, h⟩ := gd h
  refine r_putRF (pc := 65) dX9_init_65 fwX9_36 rfl rfl g25 ?_
  cases h
  exact r_vret dX9_init_68
def fX9_init_b58  (t : Nat) (σ : Shp) (R : Nat → Nat → Option Nat) (s0 : Nat) (s1 : Nat) : Option ((Shp) × (Nat → Nat → Option Nat)) :=
  if kdx σ s0 = 10 then
  let R23 := u2 R s0 6 (some s1)
  let σ24 := mkA σ 20 (Int32.toNatClampNeg (3 : Int32))
  fX9_init_b65 σ24 R23 t (nxx σ + 4)
  else none
theorem mX9_init_b58 {σ : Shp} {R : Nat → Nat → Option Nat} {t : Nat} {σ9 : Shp} {R9 : Nat → Nat → Option Nat} {s0 : Nat} {s1 : Nat} (h : fX9_init_b58 t σ R s0 s1 = some (σ9, R9)) : Lex σ σ9 := by
  unfold fX9_init_b58 at h
  replace h := (gd h).2
  exact Lex_mkA (mX9_init_b65 h)
theorem wX9_init_b58 {G : Gx} {l : Launch} {σ0 : Shp} {σ : Shp} {I : Nat → Nat → Int32} {J : Nat → Nat → Int64} {D : Nat → Nat → UInt64} {R : Nat → Nat → Option Nat} {t : Nat} {σ9 : Shp} {R9 : Nat → Nat → Option Nat} {s0 : Nat} {s1 : Nat} (h : fX9_init_b58 t σ R s0 s1 = some (σ9, R9)) : WX9_init G l σ0 (σ9, I, J, D, R9) none (σ, I, J, D, R) 58 [(0, vR (some t))] [vR (some s1), vR (some s0)] := by
  unfold fX9_init_b58 at h
  obtain ⟨g22, h⟩ := gd h
  refine r_putRF (pc := 58) dX9_init_58 fwX9_33 rfl rfl g22 ?_
  refine r_aload_n (pc := 61) dX9_init_61 rfl 0 rfl ?_
  refine r_iconst (pc := 62) dX9_init_62 kc_iconst_3 ?_
  refine r_newa (pc := 63) (t := 20) (ti := 0) (ty := .int) dX9_init_63 rfl (by decide) ac20 (by decide) (by decide) (Nat.sub_le_sub_right (mX9_init_b65 h).1 _) (Nat.sub_le_sub_right (mX9_init_b65 h).2 _) ?_
  refine r_sub [] rfl ?_
  exact wX9_init_b65 h
def fX9_init_b51  (t : Nat) (σ : Shp) (R : Nat → Nat → Option Nat) (s0 : Nat) (s1 : Nat) : Option ((Shp) × (Nat → Nat → Option Nat)) :=
  if kdx σ s0 = 10 then
  let R20 := u2 R s0 5 (some s1)
  let σ21 := mkA σ 24 (Int32.toNatClampNeg (3 : Int32))
  fX9_init_b58 t σ21 R20 t (nxx σ + 4)
  else none
theorem mX9_init_b51 {σ : Shp} {R : Nat → Nat → Option Nat} {t : Nat} {σ9 : Shp} {R9 : Nat → Nat → Option Nat} {s0 : Nat} {s1 : Nat} (h : fX9_init_b51 t σ R s0 s1 = some (σ9, R9)) : Lex σ σ9 := by
  unfold fX9_init_b51 at h
  replace h := (gd h).2
  exact Lex_mkA (mX9_init_b58 h)
theorem wX9_init_b51 {G : Gx} {l : Launch} {σ0 : Shp} {σ : Shp} {I : Nat → Nat → Int32} {J : Nat → Nat → Int64} {D : Nat → Nat → UInt64} {R : Nat → Nat → Option Nat} {t : Nat} {σ9 : Shp} {R9 : Nat → Nat → Option Nat} {s0 : Nat} {s1 : Nat} (h : fX9_init_b51 t σ R s0 s1 = some (σ9, R9)) : WX9_init G l σ0 (σ9, I, J, D, R9) none (σ, I, J, D, R) 51 [(0, vR (some t))] [vR (some s1), vR (some s0)] := by
  unfold fX9_init_b51 at h
  obtain ⟨g19, h⟩ := gd h
  refine r_putRF (pc := 51) dX9_init_51 fwX9_29 rfl rfl g19 ?_
  refine r_aload_n (pc := 54) dX9_init_54 rfl 0 rfl ?_
  refine r_iconst (pc := 55) dX9_init_55 kc_iconst_3 ?_
  refine r_newa (pc := 56) (t := 24) (ti := 4) (ty := .boolean) dX9_init_56 rfl (by decide) ac24 (by decide) (by decide) (Nat.sub_le_sub_right (mX9_init_b58 h).1 _) (Nat.sub_le_sub_right (mX9_init_b58 h).2 _) ?_
  refine r_sub [0] rfl ?_
  exact wX9_init_b58 h
def fX9_init_b44  (t : Nat) (σ : Shp) (R : Nat → Nat → Option Nat) (s0 : Nat) (s1 : Nat) : Option ((Shp) × (Nat → Nat → Option Nat)) :=
  if kdx σ s0 = 10 then
  let R17 := u2 R s0 4 (some s1)
  let σ18 := mkA σ 24 (Int32.toNatClampNeg (3 : Int32))
  fX9_init_b51 t σ18 R17 t (nxx σ + 4)
  else none
theorem mX9_init_b44 {σ : Shp} {R : Nat → Nat → Option Nat} {t : Nat} {σ9 : Shp} {R9 : Nat → Nat → Option Nat} {s0 : Nat} {s1 : Nat} (h : fX9_init_b44 t σ R s0 s1 = some (σ9, R9)) : Lex σ σ9 := by
  unfold fX9_init_b44 at h
  replace h := (gd h).2
  exact Lex_mkA (mX9_init_b51 h)
theorem wX9_init_b44 {G : Gx} {l : Launch} {σ0 : Shp} {σ : Shp} {I : Nat → Nat → Int32} {J : Nat → Nat → Int64} {D : Nat → Nat → UInt64} {R : Nat → Nat → Option Nat} {t : Nat} {σ9 : Shp} {R9 : Nat → Nat → Option Nat} {s0 : Nat} {s1 : Nat} (h : fX9_init_b44 t σ R s0 s1 = some (σ9, R9)) : WX9_init G l σ0 (σ9, I, J, D, R9) none (σ, I, J, D, R) 44 [(0, vR (some t))] [vR (some s1), vR (some s0)] := by
  unfold fX9_init_b44 at h
  obtain ⟨g16, h⟩ := gd h
  refine r_putRF (pc := 44) dX9_init_44 fwX9_26 rfl rfl g16 ?_
  refine r_aload_n (pc := 47) dX9_init_47 rfl 0 rfl ?_
  refine r_iconst (pc := 48) dX9_init_48 kc_iconst_3 ?_
  refine r_newa (pc := 49) (t := 24) (ti := 4) (ty := .boolean) dX9_init_49 rfl (by decide) ac24 (by decide) (by decide) (Nat.sub_le_sub_right (mX9_init_b51 h).1 _) (Nat.sub_le_sub_right (mX9_init_b51 h).2 _) ?_
  refine r_sub [0] rfl ?_
  exact wX9_init_b51 h
def fX9_init_b37  (t : Nat) (σ : Shp) (R : Nat → Nat → Option Nat) (s0 : Nat) (s1 : Nat) : Option ((Shp) × (Nat → Nat → Option Nat)) :=
  if kdx σ s0 = 10 then
  let R14 := u2 R s0 3 (some s1)
  let σ15 := mkA σ 20 (Int32.toNatClampNeg (3 : Int32))
  fX9_init_b44 t σ15 R14 t (nxx σ + 4)
  else none
theorem mX9_init_b37 {σ : Shp} {R : Nat → Nat → Option Nat} {t : Nat} {σ9 : Shp} {R9 : Nat → Nat → Option Nat} {s0 : Nat} {s1 : Nat} (h : fX9_init_b37 t σ R s0 s1 = some (σ9, R9)) : Lex σ σ9 := by
  unfold fX9_init_b37 at h
  replace h := (gd h).2
  exact Lex_mkA (mX9_init_b44 h)
theorem wX9_init_b37 {G : Gx} {l : Launch} {σ0 : Shp} {σ : Shp} {I : Nat → Nat → Int32} {J : Nat → Nat → Int64} {D : Nat → Nat → UInt64} {R : Nat → Nat → Option Nat} {t : Nat} {σ9 : Shp} {R9 : Nat → Nat → Option Nat} {s0 : Nat} {s1 : Nat} (h : fX9_init_b37 t σ R s0 s1 = some (σ9, R9)) : WX9_init G l σ0 (σ9, I, J, D, R9) none (σ, I, J, D, R) 37 [(0, vR (some t))] [vR (some s1), vR (some s0)] := by
  unfold fX9_init_b37 at h
  obtain ⟨g13, h⟩ := gd h
  refine r_putRF (pc := 37) dX9_init_37 fwX9_23 rfl rfl g13 ?_
  refine r_aload_n (pc := 40) dX9_init_40 rfl 0 rfl ?_
  refine r_iconst (pc := 41) dX9_init_41 kc_iconst_3 ?_
  refine r_newa (pc := 42) (t := 20) (ti := 0) (ty := .int) dX9_init_42 rfl (by decide) ac20 (by decide) (by decide) (Nat.sub_le_sub_right (mX9_init_b44 h).1 _) (Nat.sub_le_sub_right (mX9_init_b44 h).2 _) ?_
  refine r_sub [0] rfl ?_
  exact wX9_init_b44 h
def fX9_init_b30  (t : Nat) (σ : Shp) (R : Nat → Nat → Option Nat) (s0 : Nat) (s1 : Nat) : Option ((Shp) × (Nat → Nat → Option Nat)) :=
  if kdx σ s0 = 10 then
  let R11 := u2 R s0 2 (some s1)
  let σ12 := mkA σ 20 (Int32.toNatClampNeg (3 : Int32))
  fX9_init_b37 t σ12 R11 t (nxx σ + 4)
  else none
theorem mX9_init_b30 {σ : Shp} {R : Nat → Nat → Option Nat} {t : Nat} {σ9 : Shp} {R9 : Nat → Nat → Option Nat} {s0 : Nat} {s1 : Nat} (h : fX9_init_b30 t σ R s0 s1 = some (σ9, R9)) : Lex σ σ9 := by
  unfold fX9_init_b30 at h
  replace h := (gd h).2
  exact Lex_mkA (mX9_init_b37 h)
theorem wX9_init_b30 {G : Gx} {l : Launch} {σ0 : Shp} {σ : Shp} {I : Nat → Nat → Int32} {J : Nat → Nat → Int64} {D : Nat → Nat → UInt64} {R : Nat → Nat → Option Nat} {t : Nat} {σ9 : Shp} {R9 : Nat → Nat → Option Nat} {s0 : Nat} {s1 : Nat} (h : fX9_init_b30 t σ R s0 s1 = some (σ9, R9)) : WX9_init G l σ0 (σ9, I, J, D, R9) none (σ, I, J, D, R) 30 [(0, vR (some t))] [vR (some s1), vR (some s0)] := by
  unfold fX9_init_b30 at h
  obtain ⟨g10, h⟩ := gd h
  refine r_putRF (pc := 30) dX9_init_30 fwX9_19 rfl rfl g10 ?_
  refine r_aload_n (pc := 33) dX9_init_33 rfl 0 rfl ?_
  refine r_iconst (pc := 34) dX9_init_34 kc_iconst_3 ?_
  refine r_newa (pc := 35) (t := 20) (ti := 0) (ty := .int) dX9_init_35 rfl (by decide) ac20 (by decide) (by decide) (Nat.sub_le_sub_right (mX9_init_b37 h).1 _) (Nat.sub_le_sub_right (mX9_init_b37 h).2 _) ?_
  refine r_sub [0] rfl ?_
  exact wX9_init_b37 h
def fX9_init_b23  (t : Nat) (σ : Shp) (R : Nat → Nat → Option Nat) (s0 : Nat) (s1 : Nat) : Option ((Shp) × (Nat → Nat → Option Nat)) :=
  if kdx σ s0 = 10 then
  let R8 := u2 R s0 1 (some s1)
  let σ9 := mkA σ 20 (Int32.toNatClampNeg (3 : Int32))
  fX9_init_b30 t σ9 R8 t (nxx σ + 4)
  else none
theorem mX9_init_b23 {σ : Shp} {R : Nat → Nat → Option Nat} {t : Nat} {σ9 : Shp} {R9 : Nat → Nat → Option Nat} {s0 : Nat} {s1 : Nat} (h : fX9_init_b23 t σ R s0 s1 = some (σ9, R9)) : Lex σ σ9 := by
  unfold fX9_init_b23 at h
  replace h := (gd h).2
  exact Lex_mkA (mX9_init_b30 h)
theorem wX9_init_b23 {G : Gx} {l : Launch} {σ0 : Shp} {σ : Shp} {I : Nat → Nat → Int32} {J : Nat → Nat → Int64} {D : Nat → Nat → UInt64} {R : Nat → Nat → Option Nat} {t : Nat} {σ9 : Shp} {R9 : Nat → Nat → Option Nat} {s0 : Nat} {s1 : Nat} (h : fX9_init_b23 t σ R s0 s1 = some (σ9, R9)) : WX9_init G l σ0 (σ9, I, J, D, R9) none (σ, I, J, D, R) 23 [(0, vR (some t))] [vR (some s1), vR (some s0)] := by
  unfold fX9_init_b23 at h
  obtain ⟨g7, h⟩ := gd h
  refine r_putRF (pc := 23) dX9_init_23 fwX9_16 rfl rfl g7 ?_
  refine r_aload_n (pc := 26) dX9_init_26 rfl 0 rfl ?_
  refine r_iconst (pc := 27) dX9_init_27 kc_iconst_3 ?_
  refine r_newa (pc := 28) (t := 20) (ti := 0) (ty := .int) dX9_init_28 rfl (by decide) ac20 (by decide) (by decide) (Nat.sub_le_sub_right (mX9_init_b30 h).1 _) (Nat.sub_le_sub_right (mX9_init_b30 h).2 _) ?_
  refine r_sub [0] rfl ?_
  exact wX9_init_b30 h
def fX9_init_b12  (t : Nat) (σ : Shp) (R : Nat → Nat → Option Nat) (s0 : Nat) (s1 : Nat) : Option ((Shp) × (Nat → Nat → Option Nat)) :=
  if kdx σ s0 = 10 then
  let R4 := u2 R s0 0 (some s1)
  let σ5 := mkM σ 28 (Int32.toNatClampNeg (3 : Int32)) (Int32.toNatClampNeg (8 : Int32))
  let R6 := mRr R4 (nxx σ + 4) (Int32.toNatClampNeg (3 : Int32))
  fX9_init_b23 t σ5 R6 t (nxx σ + 4)
  else none
theorem mX9_init_b12 {σ : Shp} {R : Nat → Nat → Option Nat} {t : Nat} {σ9 : Shp} {R9 : Nat → Nat → Option Nat} {s0 : Nat} {s1 : Nat} (h : fX9_init_b12 t σ R s0 s1 = some (σ9, R9)) : Lex σ σ9 := by
  unfold fX9_init_b12 at h
  replace h := (gd h).2
  exact Lex_mkM (mX9_init_b23 h)
theorem wX9_init_b12 {G : Gx} {l : Launch} {σ0 : Shp} {σ : Shp} {I : Nat → Nat → Int32} {J : Nat → Nat → Int64} {D : Nat → Nat → UInt64} {R : Nat → Nat → Option Nat} {t : Nat} {σ9 : Shp} {R9 : Nat → Nat → Option Nat} {s0 : Nat} {s1 : Nat} (h : fX9_init_b12 t σ R s0 s1 = some (σ9, R9)) : WX9_init G l σ0 (σ9, I, J, D, R9) none (σ, I, J, D, R) 12 [(0, vR (some t))] [vR (some s1), vR (some s0)] := by
  unfold fX9_init_b12 at h
  obtain ⟨g3, h⟩ := gd h
  refine r_putRF (pc := 12) dX9_init_12 fwX9_13 rfl rfl g3 ?_
  refine r_aload_n (pc := 15) dX9_init_15 rfl 0 rfl ?_
  refine r_iconst (pc := 16) dX9_init_16 kc_iconst_3 ?_
  refine r_bipush (pc := 17) dX9_init_17 kc_bipush_8 ?_
  refine r_multi (pc := 19) (t := 28) (ty := .int) dX9_init_19 (by decide) cnX9_11 ac20 (by decide) (by decide) (by decide) (by decide) (Nat.sub_le_sub_right (mX9_init_b23 h).1 _) (Nat.sub_le_sub_right (mX9_init_b23 h).2 _) ?_
  refine r_sub [0] rfl ?_
  exact wX9_init_b23 h
def fX9_init (σ : Shp) (R : Nat → Nat → Option Nat) (t : Nat)  : Option ((Shp) × (Nat → Nat → Option Nat)) :=
  let σ1 := mkM σ 28 (Int32.toNatClampNeg (3 : Int32)) (Int32.toNatClampNeg (8 : Int32))
  let R2 := mRr R (nxx σ + 4) (Int32.toNatClampNeg (3 : Int32))
  fX9_init_b12 t σ1 R2 t (nxx σ + 4)
theorem mX9_init {σ : Shp} {R : Nat → Nat → Option Nat} {t : Nat}  {σ9 : Shp} {R9 : Nat → Nat → Option Nat} (h : fX9_init σ R t = some (σ9, R9)) : Lex σ σ9 := by
  unfold fX9_init at h
  exact Lex_mkM (mX9_init_b12 h)
theorem kX9_init {G : Gx} {l : Launch} {σ : Shp} {I : Nat → Nat → Int32} {J : Nat → Nat → Int64} {D : Nat → Nat → UInt64} {R : Nat → Nat → Option Nat} {t : Nat}  {σ9 : Shp} {R9 : Nat → Nat → Option Nat} (h : fX9_init σ R t = some (σ9, R9)) : Con G l yX9_init cX9_init 1 none 1 20 [vR (some t)] (σ, I, J, D, R) (σ9, I, J, D, R9) none := by
  unfold fX9_init at h
  refine Con.mk (by decide +kernel) rfl (Nat.le_of_ble_eq_true rfl) ?_
  show WX9_init G l σ (σ9, I, J, D, R9) none (σ, I, J, D, R) 0 _ []
  refine r_aload_n (pc := 0) dX9_init_0 rfl 0 rfl ?_
  refine r_objInit (pc := 1) (S := []) dX9_init_1 obX9_3 obI obC (Nat.le_of_ble_eq_true rfl) (Nat.le_of_ble_eq_true rfl) (Nat.le_of_ble_eq_true rfl) ?_
  refine r_aload_n (pc := 4) dX9_init_4 rfl 0 rfl ?_
  refine r_iconst (pc := 5) dX9_init_5 kc_iconst_3 ?_
  refine r_bipush (pc := 6) dX9_init_6 kc_bipush_8 ?_
  refine r_multi (pc := 8) (t := 28) (ty := .int) dX9_init_8 (by decide) cnX9_11 ac20 (by decide) (by decide) (by decide) (by decide) (Nat.sub_le_sub_right (mX9_init_b12 h).1 _) (Nat.sub_le_sub_right (mX9_init_b12 h).2 _) ?_
  refine r_sub [0] rfl ?_
  exact wX9_init_b12 h
abbrev WX4_init (G : Gx) (l : Launch) (σ0 : Shp) (X1 : Stt) (rv : Option SV) : Stt → Nat → List (Nat × SV) → List SV → Prop := Wm G l yX4_init cX4_init 2 none (fun _ => True) (rmx 2 40 σ0 X1.1) σ0 (Qmx G σ0 X1 rv)
def fX4_init_l177  (t : Nat) : Nat → (Shp) → (Nat → Nat → Int32) → (Nat → Nat → Int64) → (Nat → Nat → UInt64) → (Nat → Nat → Option Nat) → (Int32) → Option ((Shp) × (Nat → Nat → Int32) × (Nat → Nat → Int64) × (Nat → Nat → UInt64) × (Nat → Nat → Option Nat))
  | 0, _, _, _, _, _, _ => none
  | n + 1, σ, I, J, D, R, x1 =>
    if (3 : Int32) ≤ x1 then
      some (σ, I, J, D, R)
    else
      if kdx σ t = 5 then
      ((R t 5) : Option Nat).bind fun a59 =>
      if kdx σ a59 = 21 then
      if ¬ (x1 < 0 ∨ lnx σ a59 ≤ Int32.toNatClampNeg x1) then
      let J62 := u2 J a59 (Int32.toNatClampNeg x1) (9221120237041090560 : Int64)
      ((R t 8) : Option Nat).bind fun a63 =>
      if kdx σ a63 = 29 then
      if ¬ (x1 < 0 ∨ lnx σ a63 ≤ Int32.toNatClampNeg x1) then
      ((R a63 (Int32.toNatClampNeg x1)) : Option Nat).bind fun a66 =>
      if kdx σ a66 = 21 then
      if ¬ ((0 : Int32) < 0 ∨ lnx σ a66 ≤ Int32.toNatClampNeg (0 : Int32)) then
      let J69 := u2 J62 a66 (Int32.toNatClampNeg (0 : Int32)) (20000 : Int64)
      if ¬ ((1 : Int32) < 0 ∨ lnx σ a66 ≤ Int32.toNatClampNeg (1 : Int32)) then
      let J71 := u2 J69 a66 (Int32.toNatClampNeg (1 : Int32)) (8000 : Int64)
      let v72 := x1 + (1 : Int32)
      fX4_init_l177 t n σ I J71 D R v72
      else none
      else none
      else none
      else none
      else none
      else none
      else none
      else none
theorem mX4_init_l177  {t : Nat} {σ9 : Shp} {I9 : Nat → Nat → Int32} {J9 : Nat → Nat → Int64} {D9 : Nat → Nat → UInt64} {R9 : Nat → Nat → Option Nat} : ∀ (n : Nat) (σ : Shp) (I : Nat → Nat → Int32) (J : Nat → Nat → Int64) (D : Nat → Nat → UInt64) (R : Nat → Nat → Option Nat) (x1 : Int32), fX4_init_l177 t n σ I J D R x1 = some (σ9, I9, J9, D9, R9) → Lex σ σ9 := by
  intro n
  induction n with
  | zero =>
    intro σ I J D R x1 h
    have h : none = some _ := h
    cases h
  | succ n ih =>
    intro σ I J D R x1 h
    rw [fX4_init_l177] at h
    rcases itc h with ⟨c, h⟩ | ⟨c, h⟩
    · cases h
      exact ⟨Nat.le_refl _, Nat.le_refl _⟩
    · replace h := (gd h).2
      obtain ⟨a59, ha59, h⟩ := ob h
      replace h := (gd h).2
      replace h := (gd h).2
      obtain ⟨a63, ha63, h⟩ := ob h
      replace h := (gd h).2
      replace h := (gd h).2
      obtain ⟨a66, ha66, h⟩ := ob h
      replace h := (gd h).2
      replace h := (gd h).2
      replace h := (gd h).2
      exact ih _ _ _ _ _ _ h
theorem wX4_init_l177 {G : Gx} {l : Launch} {σ0 : Shp}  {t : Nat} {σ9 : Shp} {I9 : Nat → Nat → Int32} {J9 : Nat → Nat → Int64} {D9 : Nat → Nat → UInt64} {R9 : Nat → Nat → Option Nat} : ∀ (n : Nat) (σ : Shp) (I : Nat → Nat → Int32) (J : Nat → Nat → Int64) (D : Nat → Nat → UInt64) (R : Nat → Nat → Option Nat) (x1 : Int32), fX4_init_l177 t n σ I J D R x1 = some (σ9, I9, J9, D9, R9) → WX4_init G l σ0 (σ9, I9, J9, D9, R9) none (σ, I, J, D, R) 177 [(0, vR (some t)), (1, vI x1)] [] := by
  intro n
  induction n with
  | zero =>
    intro σ I J D R x1 h
    have h : none = some _ := h
    cases h
  | succ n ih =>
    intro σ I J D R x1 h
    rw [fX4_init_l177] at h
    refine r_iload_n (pc := 177) dX4_init_177 rfl 1 rfl ?_
    refine r_iconst (pc := 178) dX4_init_178 kc_iconst_3 ?_
    refine r_icmp_ge (pc := 179) (tgt := 219) dX4_init_179 rfl (fun c => ?_) (fun c => ?_)
    · have h := it h c
      cases h
      exact r_vret dX4_init_219
    · have h := ie h c
      refine r_aload_n (pc := 182) dX4_init_182 rfl 0 rfl ?_
      obtain ⟨g58, h⟩ := gd h
      obtain ⟨a59, ha59, h⟩ := ob h
      refine r_getS (pc := 183) dX4_init_183 fgX4_34 rfl g58 ha59 ?_
      refine r_iload_n (pc := 186) dX4_init_186 rfl 1 rfl ?_
      refine r_ldc2 (pc := 187) dX4_init_187 clX4_64 ?_
      obtain ⟨g60, h⟩ := gd h
      obtain ⟨g61, h⟩ := gd h
      refine r_lastore (pc := 190) dX4_init_190 g60 g61 ?_
      refine r_aload_n (pc := 191) dX4_init_191 rfl 0 rfl ?_
      obtain ⟨a63, ha63, h⟩ := ob h
      refine r_getS (pc := 192) dX4_init_192 fgX4_48 rfl g58 ha63 ?_
      refine r_iload_n (pc := 195) dX4_init_195 rfl 1 rfl ?_
      obtain ⟨g64, h⟩ := gd h
      obtain ⟨g65, h⟩ := gd h
      refine r_aaload (pc := 196) dX4_init_196 g64 (by decide) g65 ?_
      obtain ⟨a66, ha66, h⟩ := ob h
      refine r_ref0 ha66 ?_
      refine r_iconst (pc := 197) dX4_init_197 kc_iconst_0 ?_
      refine r_ldc2 (pc := 198) dX4_init_198 clX4_66 ?_
      obtain ⟨g67, h⟩ := gd h
      obtain ⟨g68, h⟩ := gd h
      refine r_lastore (pc := 201) dX4_init_201 g67 g68 ?_
      refine r_aload_n (pc := 202) dX4_init_202 rfl 0 rfl ?_
      refine r_getS (pc := 203) dX4_init_203 fgX4_48 rfl g58 ha63 ?_
      refine r_iload_n (pc := 206) dX4_init_206 rfl 1 rfl ?_
      refine r_aaload (pc := 207) dX4_init_207 g64 (by decide) g65 ?_
      refine r_ref0 ha66 ?_
      refine r_iconst (pc := 208) dX4_init_208 kc_iconst_1 ?_
      refine r_ldc2 (pc := 209) dX4_init_209 clX4_68 ?_
      obtain ⟨g70, h⟩ := gd h
      refine r_lastore (pc := 212) dX4_init_212 g67 g70 ?_
      refine r_iinc (pc := 213) (v := (x1 + (1 : Int32))) (L' := [(1, vI (x1 + (1 : Int32))), (0, vR (some t))]) dX4_init_213 1 rfl (kc_inc_1 _) (by decide) rfl ?_
      refine r_goto (pc := 216) (tgt := 177) dX4_init_216 rfl ?_
      refine r_sub [1, 0] rfl ?_
      exact ih _ _ _ _ _ _ h
def fX4_init_l145  (t : Nat) : Nat → (Shp) → (Nat → Nat → Int32) → (Nat → Nat → Int64) → (Nat → Nat → UInt64) → (Nat → Nat → Option Nat) → (Int32) → Option ((Shp) × (Nat → Nat → Int32) × (Nat → Nat → Int64) × (Nat → Nat → UInt64) × (Nat → Nat → Option Nat))
  | 0, _, _, _, _, _, _ => none
  | n + 1, σ, I, J, D, R, x1 =>
    if (9 : Int32) ≤ x1 then
      fX4_init_l177 t FUx σ I J D R (0 : Int32)
    else
      if kdx σ t = 5 then
      ((R t 2) : Option Nat).bind fun a74 =>
      if kdx σ a74 = 21 then
      if ¬ (x1 < 0 ∨ lnx σ a74 ≤ Int32.toNatClampNeg x1) then
      let J77 := u2 J a74 (Int32.toNatClampNeg x1) (9221120237041090560 : Int64)
      ((R t 1) : Option Nat).bind fun a78 =>
      if kdx σ a78 = 28 then
      if ¬ (x1 < 0 ∨ lnx σ a78 ≤ Int32.toNatClampNeg x1) then
      ((R a78 (Int32.toNatClampNeg x1)) : Option Nat).bind fun a81 =>
      if kdx σ a81 = 20 then
      if ¬ ((0 : Int32) < 0 ∨ lnx σ a81 ≤ Int32.toNatClampNeg (0 : Int32)) then
      let I84 := u2 I a81 (Int32.toNatClampNeg (0 : Int32)) (1 : Int32)
      let v85 := x1 + (1 : Int32)
      fX4_init_l145 t n σ I84 J77 D R v85
      else none
      else none
      else none
      else none
      else none
      else none
      else none
theorem mX4_init_l145  {t : Nat} {σ9 : Shp} {I9 : Nat → Nat → Int32} {J9 : Nat → Nat → Int64} {D9 : Nat → Nat → UInt64} {R9 : Nat → Nat → Option Nat} : ∀ (n : Nat) (σ : Shp) (I : Nat → Nat → Int32) (J : Nat → Nat → Int64) (D : Nat → Nat → UInt64) (R : Nat → Nat → Option Nat) (x1 : Int32), fX4_init_l145 t n σ I J D R x1 = some (σ9, I9, J9, D9, R9) → Lex σ σ9 := by
  intro n
  induction n with
  | zero =>
    intro σ I J D R x1 h
    have h : none = some _ := h
    cases h
  | succ n ih =>
    intro σ I J D R x1 h
    rw [fX4_init_l145] at h
    rcases itc h with ⟨c, h⟩ | ⟨c, h⟩
    · exact mX4_init_l177 _ _ _ _ _ _ _ h
    · replace h := (gd h).2
      obtain ⟨a74, ha74, h⟩ := ob h
      replace h := (gd h).2
      replace h := (gd h).2
      obtain ⟨a78, ha78, h⟩ := ob h
      replace h := (gd h).2
      replace h := (gd h).2
      obtain ⟨a81, ha81, h⟩ := ob h
      replace h := (gd h).2
      replace h := (gd h).2
      exact ih _ _ _ _ _ _ h
theorem wX4_init_l145 {G : Gx} {l : Launch} {σ0 : Shp}  {t : Nat} {σ9 : Shp} {I9 : Nat → Nat → Int32} {J9 : Nat → Nat → Int64} {D9 : Nat → Nat → UInt64} {R9 : Nat → Nat → Option Nat} : ∀ (n : Nat) (σ : Shp) (I : Nat → Nat → Int32) (J : Nat → Nat → Int64) (D : Nat → Nat → UInt64) (R : Nat → Nat → Option Nat) (x1 : Int32), fX4_init_l145 t n σ I J D R x1 = some (σ9, I9, J9, D9, R9) → WX4_init G l σ0 (σ9, I9, J9, D9, R9) none (σ, I, J, D, R) 145 [(0, vR (some t)), (1, vI x1)] [] := by
  intro n
  induction n with
  | zero =>
    intro σ I J D R x1 h
    have h : none = some _ := h
    cases h
  | succ n ih =>
    intro σ I J D R x1 h
    rw [fX4_init_l145] at h
    refine r_iload_n (pc := 145) dX4_init_145 rfl 1 rfl ?_
    refine r_bipush (pc := 146) dX4_init_146 kc_bipush_9 ?_
    refine r_icmp_ge (pc := 148) (tgt := 175) dX4_init_148 rfl (fun c => ?_) (fun c => ?_)
    · have h := it h c
      refine r_iconst (pc := 175) dX4_init_175 kc_iconst_0 ?_
      refine r_istore_n (pc := 176) (L' := [(1, vI (0 : Int32)), (0, vR (some t))]) dX4_init_176 rfl (by decide) rfl ?_
      refine r_sub [1, 0] rfl ?_
      exact wX4_init_l177 _ _ _ _ _ _ _ h
    · have h := ie h c
      refine r_aload_n (pc := 151) dX4_init_151 rfl 0 rfl ?_
      obtain ⟨g73, h⟩ := gd h
      obtain ⟨a74, ha74, h⟩ := ob h
      refine r_getS (pc := 152) dX4_init_152 fgX4_23 rfl g73 ha74 ?_
      refine r_iload_n (pc := 155) dX4_init_155 rfl 1 rfl ?_
      refine r_ldc2 (pc := 156) dX4_init_156 clX4_64 ?_
      obtain ⟨g75, h⟩ := gd h
      obtain ⟨g76, h⟩ := gd h
      refine r_lastore (pc := 159) dX4_init_159 g75 g76 ?_
      refine r_aload_n (pc := 160) dX4_init_160 rfl 0 rfl ?_
      obtain ⟨a78, ha78, h⟩ := ob h
      refine r_getS (pc := 161) dX4_init_161 fgX4_20 rfl g73 ha78 ?_
      refine r_iload_n (pc := 164) dX4_init_164 rfl 1 rfl ?_
      obtain ⟨g79, h⟩ := gd h
      obtain ⟨g80, h⟩ := gd h
      refine r_aaload (pc := 165) dX4_init_165 g79 (by decide) g80 ?_
      obtain ⟨a81, ha81, h⟩ := ob h
      refine r_ref0 ha81 ?_
      refine r_iconst (pc := 166) dX4_init_166 kc_iconst_0 ?_
      refine r_iconst (pc := 167) dX4_init_167 kc_iconst_1 ?_
      obtain ⟨g82, h⟩ := gd h
      obtain ⟨g83, h⟩ := gd h
      refine r_iastore (pc := 168) dX4_init_168 g82 g83 ?_
      refine r_iinc (pc := 169) (v := (x1 + (1 : Int32))) (L' := [(1, vI (x1 + (1 : Int32))), (0, vR (some t))]) dX4_init_169 1 rfl (kc_inc_1 _) (by decide) rfl ?_
      refine r_goto (pc := 172) (tgt := 145) dX4_init_172 rfl ?_
      refine r_sub [1, 0] rfl ?_
      exact ih _ _ _ _ _ _ h
def fX4_init_b140  (t : Nat) (σ : Shp) (I : Nat → Nat → Int32) (J : Nat → Nat → Int64) (D : Nat → Nat → UInt64) (R : Nat → Nat → Option Nat) (s0 : Nat) (s1 : Nat) : Option ((Shp) × (Nat → Nat → Int32) × (Nat → Nat → Int64) × (Nat → Nat → UInt64) × (Nat → Nat → Option Nat)) :=
  if kdx σ s0 = 5 then
  let R57 := u2 R s0 12 (some s1)
  fX4_init_l145 t FUx σ I J D R57 (0 : Int32)
  else none
theorem mX4_init_b140 {σ : Shp} {I : Nat → Nat → Int32} {J : Nat → Nat → Int64} {D : Nat → Nat → UInt64} {R : Nat → Nat → Option Nat} {t : Nat} {σ9 : Shp} {I9 : Nat → Nat → Int32} {J9 : Nat → Nat → Int64} {D9 : Nat → Nat → UInt64} {R9 : Nat → Nat → Option Nat} {s0 : Nat} {s1 : Nat} (h : fX4_init_b140 t σ I J D R s0 s1 = some (σ9, I9, J9, D9, R9)) : Lex σ σ9 := by
  unfold fX4_init_b140 at h
  replace h := (gd h).2
  exact mX4_init_l145 _ _ _ _ _ _ _ h
theorem wX4_init_b140 {G : Gx} {l : Launch} {σ0 : Shp} {σ : Shp} {I : Nat → Nat → Int32} {J : Nat → Nat → Int64} {D : Nat → Nat → UInt64} {R : Nat → Nat → Option Nat} {t : Nat} {σ9 : Shp} {I9 : Nat → Nat → Int32} {J9 : Nat → Nat → Int64} {D9 : Nat → Nat → UInt64} {R9 : Nat → Nat → Option Nat} {s0 : Nat} {s1 : Nat} (h : fX4_init_b140 t σ I J D R s0 s1 = some (σ9, I9, J9, D9, R9)) : WX4_init G l σ0 (σ9, I9, J9, D9, R9) none (σ, I, J, D, R) 140 [(0, vR (some t))] [vR (some s1), vR (some s0)] := by
  unfold fX4_init_b140 at h
  obtain ⟨g56, h⟩ := gd h
  refine r_putRF (pc := 140) dX4_init_140 fwX4_61 rfl rfl g56 ?_
  refine r_iconst (pc := 143) dX4_init_143 kc_iconst_0 ?_
  refine r_istore_n (pc := 144) (L' := [(1, vI (0 : Int32)), (0, vR (some t))]) dX4_init_144 rfl (by decide) rfl ?_
  refine r_sub [1, 0] rfl ?_
  exact wX4_init_l145 _ _ _ _ _ _ _ h
def fX4_init_b133  (t : Nat) (σ : Shp) (I : Nat → Nat → Int32) (J : Nat → Nat → Int64) (D : Nat → Nat → UInt64) (R : Nat → Nat → Option Nat) (s0 : Nat) (s1 : Nat) : Option ((Shp) × (Nat → Nat → Int32) × (Nat → Nat → Int64) × (Nat → Nat → UInt64) × (Nat → Nat → Option Nat)) :=
  if kdx σ s0 = 5 then
  let R54 := u2 R s0 11 (some s1)
  let σ55 := mkA σ 20 (Int32.toNatClampNeg (3 : Int32))
  fX4_init_b140 t σ55 I J D R54 t (nxx σ + 4)
  else none
theorem mX4_init_b133 {σ : Shp} {I : Nat → Nat → Int32} {J : Nat → Nat → Int64} {D : Nat → Nat → UInt64} {R : Nat → Nat → Option Nat} {t : Nat} {σ9 : Shp} {I9 : Nat → Nat → Int32} {J9 : Nat → Nat → Int64} {D9 : Nat → Nat → UInt64} {R9 : Nat → Nat → Option Nat} {s0 : Nat} {s1 : Nat} (h : fX4_init_b133 t σ I J D R s0 s1 = some (σ9, I9, J9, D9, R9)) : Lex σ σ9 := by
  unfold fX4_init_b133 at h
  replace h := (gd h).2
  exact Lex_mkA (mX4_init_b140 h)
theorem wX4_init_b133 {G : Gx} {l : Launch} {σ0 : Shp} {σ : Shp} {I : Nat → Nat → Int32} {J : Nat → Nat → Int64} {D : Nat → Nat → UInt64} {R : Nat → Nat → Option Nat} {t : Nat} {σ9 : Shp} {I9 : Nat → Nat → Int32} {J9 : Nat → Nat → Int64} {D9 : Nat → Nat → UInt64} {R9 : Nat → Nat → Option Nat} {s0 : Nat} {s1 : Nat} (h : fX4_init_b133 t σ I J D R s0 s1 = some (σ9, I9, J9, D9, R9)) : WX4_init G l σ0 (σ9, I9, J9, D9, R9) none (σ, I, J, D, R) 133 [(0, vR (some t))] [vR (some s1), vR (some s0)] := by
  unfold fX4_init_b133 at h
  obtain ⟨g53, h⟩ := gd h
  refine r_putRF (pc := 133) dX4_init_133 fwX4_58 rfl rfl g53 ?_
  refine r_aload_n (pc := 136) dX4_init_136 rfl 0 rfl ?_
  refine r_iconst (pc := 137) dX4_init_137 kc_iconst_3 ?_
  refine r_newa (pc := 138) (t := 20) (ti := 0) (ty := .int) dX4_init_138 rfl (by decide) ac20 (by decide) (by decide) (Nat.sub_le_sub_right (mX4_init_b140 h).1 _) (Nat.sub_le_sub_right (mX4_init_b140 h).2 _) ?_
  refine r_sub [0] rfl ?_
  exact wX4_init_b140 h
def fX4_init_b122  (t : Nat) (σ : Shp) (I : Nat → Nat → Int32) (J : Nat → Nat → Int64) (D : Nat → Nat → UInt64) (R : Nat → Nat → Option Nat) (s0 : Nat) (s1 : Nat) : Option ((Shp) × (Nat → Nat → Int32) × (Nat → Nat → Int64) × (Nat → Nat → UInt64) × (Nat → Nat → Option Nat)) :=
  if kdx σ s0 = 5 then
  let R50 := u2 R s0 10 (some s1)
  let σ51 := mkM σ 28 (Int32.toNatClampNeg (3 : Int32)) (Int32.toNatClampNeg (6 : Int32))
  let R52 := mRr R50 (nxx σ + 4) (Int32.toNatClampNeg (3 : Int32))
  fX4_init_b133 t σ51 I J D R52 t (nxx σ + 4)
  else none
theorem mX4_init_b122 {σ : Shp} {I : Nat → Nat → Int32} {J : Nat → Nat → Int64} {D : Nat → Nat → UInt64} {R : Nat → Nat → Option Nat} {t : Nat} {σ9 : Shp} {I9 : Nat → Nat → Int32} {J9 : Nat → Nat → Int64} {D9 : Nat → Nat → UInt64} {R9 : Nat → Nat → Option Nat} {s0 : Nat} {s1 : Nat} (h : fX4_init_b122 t σ I J D R s0 s1 = some (σ9, I9, J9, D9, R9)) : Lex σ σ9 := by
  unfold fX4_init_b122 at h
  replace h := (gd h).2
  exact Lex_mkM (mX4_init_b133 h)
theorem wX4_init_b122 {G : Gx} {l : Launch} {σ0 : Shp} {σ : Shp} {I : Nat → Nat → Int32} {J : Nat → Nat → Int64} {D : Nat → Nat → UInt64} {R : Nat → Nat → Option Nat} {t : Nat} {σ9 : Shp} {I9 : Nat → Nat → Int32} {J9 : Nat → Nat → Int64} {D9 : Nat → Nat → UInt64} {R9 : Nat → Nat → Option Nat} {s0 : Nat} {s1 : Nat} (h : fX4_init_b122 t σ I J D R s0 s1 = some (σ9, I9, J9, D9, R9)) : WX4_init G l σ0 (σ9, I9, J9, D9, R9) none (σ, I, J, D, R) 122 [(0, vR (some t))] [vR (some s1), vR (some s0)] := by
  unfold fX4_init_b122 at h
  obtain ⟨g49, h⟩ := gd h
  refine r_putRF (pc := 122) dX4_init_122 fwX4_55 rfl rfl g49 ?_
  refine r_aload_n (pc := 125) dX4_init_125 rfl 0 rfl ?_
  refine r_iconst (pc := 126) dX4_init_126 kc_iconst_3 ?_
  refine r_bipush (pc := 127) dX4_init_127 kc_bipush_6 ?_
  refine r_multi (pc := 129) (t := 28) (ty := .int) dX4_init_129 (by decide) cnX4_18 ac20 (by decide) (by decide) (by decide) (by decide) (Nat.sub_le_sub_right (mX4_init_b133 h).1 _) (Nat.sub_le_sub_right (mX4_init_b133 h).2 _) ?_
  refine r_sub [0] rfl ?_
  exact wX4_init_b133 h
def fX4_init_b87  (t : Nat) (σ : Shp) (I : Nat → Nat → Int32) (J : Nat → Nat → Int64) (D : Nat → Nat → UInt64) (R : Nat → Nat → Option Nat) (s0 : Nat) (s1 : Nat) : Option ((Shp) × (Nat → Nat → Int32) × (Nat → Nat → Int64) × (Nat → Nat → UInt64) × (Nat → Nat → Option Nat)) :=
  if kdx σ s1 = 20 then
  if ¬ ((0 : Int32) < 0 ∨ lnx σ s1 ≤ Int32.toNatClampNeg (0 : Int32)) then
  let I36 := u2 I s1 (Int32.toNatClampNeg (0 : Int32)) (0 : Int32)
  if ¬ ((1 : Int32) < 0 ∨ lnx σ s1 ≤ Int32.toNatClampNeg (1 : Int32)) then
  let I38 := u2 I36 s1 (Int32.toNatClampNeg (1 : Int32)) (10000 : Int32)
  if ¬ ((2 : Int32) < 0 ∨ lnx σ s1 ≤ Int32.toNatClampNeg (2 : Int32)) then
  let I40 := u2 I38 s1 (Int32.toNatClampNeg (2 : Int32)) (5000 : Int32)
  if ¬ ((3 : Int32) < 0 ∨ lnx σ s1 ≤ Int32.toNatClampNeg (3 : Int32)) then
  let I42 := u2 I40 s1 (Int32.toNatClampNeg (3 : Int32)) (0 : Int32)
  if ¬ ((4 : Int32) < 0 ∨ lnx σ s1 ≤ Int32.toNatClampNeg (4 : Int32)) then
  let I44 := u2 I42 s1 (Int32.toNatClampNeg (4 : Int32)) (0 : Int32)
  if kdx σ s0 = 5 then
  let R46 := u2 R s0 9 (some s1)
  let σ47 := mkM σ 28 (Int32.toNatClampNeg (3 : Int32)) (Int32.toNatClampNeg (6 : Int32))
  let R48 := mRr R46 (nxx σ + 4) (Int32.toNatClampNeg (3 : Int32))
  fX4_init_b122 t σ47 I44 J D R48 t (nxx σ + 4)
  else none
  else none
  else none
  else none
  else none
  else none
  else none
theorem mX4_init_b87 {σ : Shp} {I : Nat → Nat → Int32} {J : Nat → Nat → Int64} {D : Nat → Nat → UInt64} {R : Nat → Nat → Option Nat} {t : Nat} {σ9 : Shp} {I9 : Nat → Nat → Int32} {J9 : Nat → Nat → Int64} {D9 : Nat → Nat → UInt64} {R9 : Nat → Nat → Option Nat} {s0 : Nat} {s1 : Nat} (h : fX4_init_b87 t σ I J D R s0 s1 = some (σ9, I9, J9, D9, R9)) : Lex σ σ9 := by
  unfold fX4_init_b87 at h
  replace h := (gd h).2
  replace h := (gd h).2
  replace h := (gd h).2
  replace h := (gd h).2
  replace h := (gd h).2
  replace h := (gd h).2
  replace h := (gd h).2
  exact Lex_mkM (mX4_init_b122 h)
theorem wX4_init_b87 {G : Gx} {l : Launch} {σ0 : Shp} {σ : Shp} {I : Nat → Nat → Int32} {J : Nat → Nat → Int64} {D : Nat → Nat → UInt64} {R : Nat → Nat → Option Nat} {t : Nat} {σ9 : Shp} {I9 : Nat → Nat → Int32} {J9 : Nat → Nat → Int64} {D9 : Nat → Nat → UInt64} {R9 : Nat → Nat → Option Nat} {s0 : Nat} {s1 : Nat} (h : fX4_init_b87 t σ I J D R s0 s1 = some (σ9, I9, J9, D9, R9)) : WX4_init G l σ0 (σ9, I9, J9, D9, R9) none (σ, I, J, D, R) 87 [(0, vR (some t))] [vR (some s1), vR (some s0)] := by
  unfold fX4_init_b87 at h
  refine r_dup (pc := 87) dX4_init_87 rfl ?_
  refine r_iconst (pc := 88) dX4_init_88 kc_iconst_0 ?_
  refine r_iconst (pc := 89) dX4_init_89 kc_iconst_0 ?_
  obtain ⟨g34, h⟩ := gd h
  obtain ⟨g35, h⟩ := gd h
  refine r_iastore (pc := 90) dX4_init_90 g34 g35 ?_
  refine r_dup (pc := 91) dX4_init_91 rfl ?_
  refine r_iconst (pc := 92) dX4_init_92 kc_iconst_1 ?_
  refine r_sipush (pc := 93) dX4_init_93 kc_sipush_10000 ?_
  obtain ⟨g37, h⟩ := gd h
  refine r_iastore (pc := 96) dX4_init_96 g34 g37 ?_
  refine r_dup (pc := 97) dX4_init_97 rfl ?_
  refine r_iconst (pc := 98) dX4_init_98 kc_iconst_2 ?_
  refine r_sipush (pc := 99) dX4_init_99 kc_sipush_5000 ?_
  obtain ⟨g39, h⟩ := gd h
  refine r_iastore (pc := 102) dX4_init_102 g34 g39 ?_
  refine r_dup (pc := 103) dX4_init_103 rfl ?_
  refine r_iconst (pc := 104) dX4_init_104 kc_iconst_3 ?_
  refine r_iconst (pc := 105) dX4_init_105 kc_iconst_0 ?_
  obtain ⟨g41, h⟩ := gd h
  refine r_iastore (pc := 106) dX4_init_106 g34 g41 ?_
  refine r_dup (pc := 107) dX4_init_107 rfl ?_
  refine r_iconst (pc := 108) dX4_init_108 kc_iconst_4 ?_
  refine r_iconst (pc := 109) dX4_init_109 kc_iconst_0 ?_
  obtain ⟨g43, h⟩ := gd h
  refine r_iastore (pc := 110) dX4_init_110 g34 g43 ?_
  obtain ⟨g45, h⟩ := gd h
  refine r_putRF (pc := 111) dX4_init_111 fwX4_51 rfl rfl g45 ?_
  refine r_aload_n (pc := 114) dX4_init_114 rfl 0 rfl ?_
  refine r_iconst (pc := 115) dX4_init_115 kc_iconst_3 ?_
  refine r_bipush (pc := 116) dX4_init_116 kc_bipush_6 ?_
  refine r_multi (pc := 118) (t := 28) (ty := .int) dX4_init_118 (by decide) cnX4_18 ac20 (by decide) (by decide) (by decide) (by decide) (Nat.sub_le_sub_right (mX4_init_b122 h).1 _) (Nat.sub_le_sub_right (mX4_init_b122 h).2 _) ?_
  refine r_sub [0] rfl ?_
  exact wX4_init_b122 h
def fX4_init_b80  (t : Nat) (σ : Shp) (I : Nat → Nat → Int32) (J : Nat → Nat → Int64) (D : Nat → Nat → UInt64) (R : Nat → Nat → Option Nat) (s0 : Nat) (s1 : Nat) : Option ((Shp) × (Nat → Nat → Int32) × (Nat → Nat → Int64) × (Nat → Nat → UInt64) × (Nat → Nat → Option Nat)) :=
  if kdx σ s0 = 5 then
  let R32 := u2 R s0 8 (some s1)
  let σ33 := mkA σ 20 (Int32.toNatClampNeg (5 : Int32))
  fX4_init_b87 t σ33 I J D R32 t (nxx σ + 4)
  else none
theorem mX4_init_b80 {σ : Shp} {I : Nat → Nat → Int32} {J : Nat → Nat → Int64} {D : Nat → Nat → UInt64} {R : Nat → Nat → Option Nat} {t : Nat} {σ9 : Shp} {I9 : Nat → Nat → Int32} {J9 : Nat → Nat → Int64} {D9 : Nat → Nat → UInt64} {R9 : Nat → Nat → Option Nat} {s0 : Nat} {s1 : Nat} (h : fX4_init_b80 t σ I J D R s0 s1 = some (σ9, I9, J9, D9, R9)) : Lex σ σ9 := by
  unfold fX4_init_b80 at h
  replace h := (gd h).2
  exact Lex_mkA (mX4_init_b87 h)
theorem wX4_init_b80 {G : Gx} {l : Launch} {σ0 : Shp} {σ : Shp} {I : Nat → Nat → Int32} {J : Nat → Nat → Int64} {D : Nat → Nat → UInt64} {R : Nat → Nat → Option Nat} {t : Nat} {σ9 : Shp} {I9 : Nat → Nat → Int32} {J9 : Nat → Nat → Int64} {D9 : Nat → Nat → UInt64} {R9 : Nat → Nat → Option Nat} {s0 : Nat} {s1 : Nat} (h : fX4_init_b80 t σ I J D R s0 s1 = some (σ9, I9, J9, D9, R9)) : WX4_init G l σ0 (σ9, I9, J9, D9, R9) none (σ, I, J, D, R) 80 [(0, vR (some t))] [vR (some s1), vR (some s0)] := by
  unfold fX4_init_b80 at h
  obtain ⟨g31, h⟩ := gd h
  refine r_putRF (pc := 80) dX4_init_80 fwX4_48 rfl rfl g31 ?_
  refine r_aload_n (pc := 83) dX4_init_83 rfl 0 rfl ?_
  refine r_iconst (pc := 84) dX4_init_84 kc_iconst_5 ?_
  refine r_newa (pc := 85) (t := 20) (ti := 0) (ty := .int) dX4_init_85 rfl (by decide) ac20 (by decide) (by decide) (Nat.sub_le_sub_right (mX4_init_b87 h).1 _) (Nat.sub_le_sub_right (mX4_init_b87 h).2 _) ?_
  refine r_sub [0] rfl ?_
  exact wX4_init_b87 h
def fX4_init_b62  (t : Nat) (σ : Shp) (I : Nat → Nat → Int32) (J : Nat → Nat → Int64) (D : Nat → Nat → UInt64) (R : Nat → Nat → Option Nat) (s0 : Nat) (s1 : Nat) : Option ((Shp) × (Nat → Nat → Int32) × (Nat → Nat → Int64) × (Nat → Nat → UInt64) × (Nat → Nat → Option Nat)) :=
  if kdx σ s0 = 5 then
  let R26 := u2 R s0 6 (some s1)
  if kdx σ t = 5 then
  let D28 := u2 D t 7 (4611686018427387904 : UInt64)
  let σ29 := mkM σ 29 (Int32.toNatClampNeg (3 : Int32)) (Int32.toNatClampNeg (11 : Int32))
  let R30 := mRr R26 (nxx σ + 4) (Int32.toNatClampNeg (3 : Int32))
  fX4_init_b80 t σ29 I J D28 R30 t (nxx σ + 4)
  else none
  else none
theorem mX4_init_b62 {σ : Shp} {I : Nat → Nat → Int32} {J : Nat → Nat → Int64} {D : Nat → Nat → UInt64} {R : Nat → Nat → Option Nat} {t : Nat} {σ9 : Shp} {I9 : Nat → Nat → Int32} {J9 : Nat → Nat → Int64} {D9 : Nat → Nat → UInt64} {R9 : Nat → Nat → Option Nat} {s0 : Nat} {s1 : Nat} (h : fX4_init_b62 t σ I J D R s0 s1 = some (σ9, I9, J9, D9, R9)) : Lex σ σ9 := by
  unfold fX4_init_b62 at h
  replace h := (gd h).2
  replace h := (gd h).2
  exact Lex_mkM (mX4_init_b80 h)
theorem wX4_init_b62 {G : Gx} {l : Launch} {σ0 : Shp} {σ : Shp} {I : Nat → Nat → Int32} {J : Nat → Nat → Int64} {D : Nat → Nat → UInt64} {R : Nat → Nat → Option Nat} {t : Nat} {σ9 : Shp} {I9 : Nat → Nat → Int32} {J9 : Nat → Nat → Int64} {D9 : Nat → Nat → UInt64} {R9 : Nat → Nat → Option Nat} {s0 : Nat} {s1 : Nat} (h : fX4_init_b62 t σ I J D R s0 s1 = some (σ9, I9, J9, D9, R9)) : WX4_init G l σ0 (σ9, I9, J9, D9, R9) none (σ, I, J, D, R) 62 [(0, vR (some t))] [vR (some s1), vR (some s0)] := by
  unfold fX4_init_b62 at h
  obtain ⟨g25, h⟩ := gd h
  refine r_putRF (pc := 62) dX4_init_62 fwX4_37 rfl rfl g25 ?_
  refine r_aload_n (pc := 65) dX4_init_65 rfl 0 rfl ?_
  refine r_ldc2d (pc := 66) dX4_init_66 cdX4_40 ?_
  obtain ⟨g27, h⟩ := gd h
  refine r_putD (pc := 69) dX4_init_69 fwX4_42 rfl g27 ?_
  refine r_aload_n (pc := 72) dX4_init_72 rfl 0 rfl ?_
  refine r_iconst (pc := 73) dX4_init_73 kc_iconst_3 ?_
  refine r_bipush (pc := 74) dX4_init_74 kc_bipush_11 ?_
  refine r_multi (pc := 76) (t := 29) (ty := .long) dX4_init_76 (by decide) cnX4_46 ac21 (by decide) (by decide) (by decide) (by decide) (Nat.sub_le_sub_right (mX4_init_b80 h).1 _) (Nat.sub_le_sub_right (mX4_init_b80 h).2 _) ?_
  refine r_sub [0] rfl ?_
  exact wX4_init_b80 h
def fX4_init_b54  (t : Nat) (σ : Shp) (I : Nat → Nat → Int32) (J : Nat → Nat → Int64) (D : Nat → Nat → UInt64) (R : Nat → Nat → Option Nat) (s0 : Nat) (s1 : Nat) : Option ((Shp) × (Nat → Nat → Int32) × (Nat → Nat → Int64) × (Nat → Nat → UInt64) × (Nat → Nat → Option Nat)) :=
  if kdx σ s0 = 5 then
  let R23 := u2 R s0 5 (some s1)
  let σ24 := mkA σ 21 (Int32.toNatClampNeg (9 : Int32))
  fX4_init_b62 t σ24 I J D R23 t (nxx σ + 4)
  else none
theorem mX4_init_b54 {σ : Shp} {I : Nat → Nat → Int32} {J : Nat → Nat → Int64} {D : Nat → Nat → UInt64} {R : Nat → Nat → Option Nat} {t : Nat} {σ9 : Shp} {I9 : Nat → Nat → Int32} {J9 : Nat → Nat → Int64} {D9 : Nat → Nat → UInt64} {R9 : Nat → Nat → Option Nat} {s0 : Nat} {s1 : Nat} (h : fX4_init_b54 t σ I J D R s0 s1 = some (σ9, I9, J9, D9, R9)) : Lex σ σ9 := by
  unfold fX4_init_b54 at h
  replace h := (gd h).2
  exact Lex_mkA (mX4_init_b62 h)
theorem wX4_init_b54 {G : Gx} {l : Launch} {σ0 : Shp} {σ : Shp} {I : Nat → Nat → Int32} {J : Nat → Nat → Int64} {D : Nat → Nat → UInt64} {R : Nat → Nat → Option Nat} {t : Nat} {σ9 : Shp} {I9 : Nat → Nat → Int32} {J9 : Nat → Nat → Int64} {D9 : Nat → Nat → UInt64} {R9 : Nat → Nat → Option Nat} {s0 : Nat} {s1 : Nat} (h : fX4_init_b54 t σ I J D R s0 s1 = some (σ9, I9, J9, D9, R9)) : WX4_init G l σ0 (σ9, I9, J9, D9, R9) none (σ, I, J, D, R) 54 [(0, vR (some t))] [vR (some s1), vR (some s0)] := by
  unfold fX4_init_b54 at h
  obtain ⟨g22, h⟩ := gd h
  refine r_putRF (pc := 54) dX4_init_54 fwX4_34 rfl rfl g22 ?_
  refine r_aload_n (pc := 57) dX4_init_57 rfl 0 rfl ?_
  refine r_bipush (pc := 58) dX4_init_58 kc_bipush_9 ?_
  refine r_newa (pc := 60) (t := 21) (ti := 1) (ty := .long) dX4_init_60 rfl (by decide) ac21 (by decide) (by decide) (Nat.sub_le_sub_right (mX4_init_b62 h).1 _) (Nat.sub_le_sub_right (mX4_init_b62 h).2 _) ?_
  refine r_sub [0] rfl ?_
  exact wX4_init_b62 h
def fX4_init_b47  (t : Nat) (σ : Shp) (I : Nat → Nat → Int32) (J : Nat → Nat → Int64) (D : Nat → Nat → UInt64) (R : Nat → Nat → Option Nat) (s0 : Nat) (s1 : Nat) : Option ((Shp) × (Nat → Nat → Int32) × (Nat → Nat → Int64) × (Nat → Nat → UInt64) × (Nat → Nat → Option Nat)) :=
  if kdx σ s0 = 5 then
  let R20 := u2 R s0 4 (some s1)
  let σ21 := mkA σ 21 (Int32.toNatClampNeg (3 : Int32))
  fX4_init_b54 t σ21 I J D R20 t (nxx σ + 4)
  else none
theorem mX4_init_b47 {σ : Shp} {I : Nat → Nat → Int32} {J : Nat → Nat → Int64} {D : Nat → Nat → UInt64} {R : Nat → Nat → Option Nat} {t : Nat} {σ9 : Shp} {I9 : Nat → Nat → Int32} {J9 : Nat → Nat → Int64} {D9 : Nat → Nat → UInt64} {R9 : Nat → Nat → Option Nat} {s0 : Nat} {s1 : Nat} (h : fX4_init_b47 t σ I J D R s0 s1 = some (σ9, I9, J9, D9, R9)) : Lex σ σ9 := by
  unfold fX4_init_b47 at h
  replace h := (gd h).2
  exact Lex_mkA (mX4_init_b54 h)
theorem wX4_init_b47 {G : Gx} {l : Launch} {σ0 : Shp} {σ : Shp} {I : Nat → Nat → Int32} {J : Nat → Nat → Int64} {D : Nat → Nat → UInt64} {R : Nat → Nat → Option Nat} {t : Nat} {σ9 : Shp} {I9 : Nat → Nat → Int32} {J9 : Nat → Nat → Int64} {D9 : Nat → Nat → UInt64} {R9 : Nat → Nat → Option Nat} {s0 : Nat} {s1 : Nat} (h : fX4_init_b47 t σ I J D R s0 s1 = some (σ9, I9, J9, D9, R9)) : WX4_init G l σ0 (σ9, I9, J9, D9, R9) none (σ, I, J, D, R) 47 [(0, vR (some t))] [vR (some s1), vR (some s0)] := by
  unfold fX4_init_b47 at h
  obtain ⟨g19, h⟩ := gd h
  refine r_putRF (pc := 47) dX4_init_47 fwX4_31 rfl rfl g19 ?_
  refine r_aload_n (pc := 50) dX4_init_50 rfl 0 rfl ?_
  refine r_iconst (pc := 51) dX4_init_51 kc_iconst_3 ?_
  refine r_newa (pc := 52) (t := 21) (ti := 1) (ty := .long) dX4_init_52 rfl (by decide) ac21 (by decide) (by decide) (Nat.sub_le_sub_right (mX4_init_b54 h).1 _) (Nat.sub_le_sub_right (mX4_init_b54 h).2 _) ?_
  refine r_sub [0] rfl ?_
  exact wX4_init_b54 h
def fX4_init_b39  (t : Nat) (σ : Shp) (I : Nat → Nat → Int32) (J : Nat → Nat → Int64) (D : Nat → Nat → UInt64) (R : Nat → Nat → Option Nat) (s0 : Nat) (s1 : Nat) : Option ((Shp) × (Nat → Nat → Int32) × (Nat → Nat → Int64) × (Nat → Nat → UInt64) × (Nat → Nat → Option Nat)) :=
  if kdx σ s0 = 5 then
  let R17 := u2 R s0 3 (some s1)
  let σ18 := mkA σ 21 (Int32.toNatClampNeg (9 : Int32))
  fX4_init_b47 t σ18 I J D R17 t (nxx σ + 4)
  else none
theorem mX4_init_b39 {σ : Shp} {I : Nat → Nat → Int32} {J : Nat → Nat → Int64} {D : Nat → Nat → UInt64} {R : Nat → Nat → Option Nat} {t : Nat} {σ9 : Shp} {I9 : Nat → Nat → Int32} {J9 : Nat → Nat → Int64} {D9 : Nat → Nat → UInt64} {R9 : Nat → Nat → Option Nat} {s0 : Nat} {s1 : Nat} (h : fX4_init_b39 t σ I J D R s0 s1 = some (σ9, I9, J9, D9, R9)) : Lex σ σ9 := by
  unfold fX4_init_b39 at h
  replace h := (gd h).2
  exact Lex_mkA (mX4_init_b47 h)
theorem wX4_init_b39 {G : Gx} {l : Launch} {σ0 : Shp} {σ : Shp} {I : Nat → Nat → Int32} {J : Nat → Nat → Int64} {D : Nat → Nat → UInt64} {R : Nat → Nat → Option Nat} {t : Nat} {σ9 : Shp} {I9 : Nat → Nat → Int32} {J9 : Nat → Nat → Int64} {D9 : Nat → Nat → UInt64} {R9 : Nat → Nat → Option Nat} {s0 : Nat} {s1 : Nat} (h : fX4_init_b39 t σ I J D R s0 s1 = some (σ9, I9, J9, D9, R9)) : WX4_init G l σ0 (σ9, I9, J9, D9, R9) none (σ, I, J, D, R) 39 [(0, vR (some t))] [vR (some s1), vR (some s0)] := by
  unfold fX4_init_b39 at h
  obtain ⟨g16, h⟩ := gd h
  refine r_putRF (pc := 39) dX4_init_39 fwX4_27 rfl rfl g16 ?_
  refine r_aload_n (pc := 42) dX4_init_42 rfl 0 rfl ?_
  refine r_bipush (pc := 43) dX4_init_43 kc_bipush_9 ?_
  refine r_newa (pc := 45) (t := 21) (ti := 1) (ty := .long) dX4_init_45 rfl (by decide) ac21 (by decide) (by decide) (Nat.sub_le_sub_right (mX4_init_b47 h).1 _) (Nat.sub_le_sub_right (mX4_init_b47 h).2 _) ?_
  refine r_sub [0] rfl ?_
  exact wX4_init_b47 h
def fX4_init_b31  (t : Nat) (σ : Shp) (I : Nat → Nat → Int32) (J : Nat → Nat → Int64) (D : Nat → Nat → UInt64) (R : Nat → Nat → Option Nat) (s0 : Nat) (s1 : Nat) : Option ((Shp) × (Nat → Nat → Int32) × (Nat → Nat → Int64) × (Nat → Nat → UInt64) × (Nat → Nat → Option Nat)) :=
  if kdx σ s0 = 5 then
  let R14 := u2 R s0 2 (some s1)
  let σ15 := mkA σ 25 (Int32.toNatClampNeg (9 : Int32))
  fX4_init_b39 t σ15 I J D R14 t (nxx σ + 4)
  else none
theorem mX4_init_b31 {σ : Shp} {I : Nat → Nat → Int32} {J : Nat → Nat → Int64} {D : Nat → Nat → UInt64} {R : Nat → Nat → Option Nat} {t : Nat} {σ9 : Shp} {I9 : Nat → Nat → Int32} {J9 : Nat → Nat → Int64} {D9 : Nat → Nat → UInt64} {R9 : Nat → Nat → Option Nat} {s0 : Nat} {s1 : Nat} (h : fX4_init_b31 t σ I J D R s0 s1 = some (σ9, I9, J9, D9, R9)) : Lex σ σ9 := by
  unfold fX4_init_b31 at h
  replace h := (gd h).2
  exact Lex_mkA (mX4_init_b39 h)
theorem wX4_init_b31 {G : Gx} {l : Launch} {σ0 : Shp} {σ : Shp} {I : Nat → Nat → Int32} {J : Nat → Nat → Int64} {D : Nat → Nat → UInt64} {R : Nat → Nat → Option Nat} {t : Nat} {σ9 : Shp} {I9 : Nat → Nat → Int32} {J9 : Nat → Nat → Int64} {D9 : Nat → Nat → UInt64} {R9 : Nat → Nat → Option Nat} {s0 : Nat} {s1 : Nat} (h : fX4_init_b31 t σ I J D R s0 s1 = some (σ9, I9, J9, D9, R9)) : WX4_init G l σ0 (σ9, I9, J9, D9, R9) none (σ, I, J, D, R) 31 [(0, vR (some t))] [vR (some s1), vR (some s0)] := by
  unfold fX4_init_b31 at h
  obtain ⟨g13, h⟩ := gd h
  refine r_putRF (pc := 31) dX4_init_31 fwX4_23 rfl rfl g13 ?_
  refine r_aload_n (pc := 34) dX4_init_34 rfl 0 rfl ?_
  refine r_bipush (pc := 35) dX4_init_35 kc_bipush_9 ?_
  refine r_newa (pc := 37) (t := 25) (ti := 5) (ty := .double) dX4_init_37 rfl (by decide) ac25 (by decide) (by decide) (Nat.sub_le_sub_right (mX4_init_b39 h).1 _) (Nat.sub_le_sub_right (mX4_init_b39 h).2 _) ?_
  refine r_sub [0] rfl ?_
  exact wX4_init_b39 h
def fX4_init_b23  (t : Nat) (σ : Shp) (I : Nat → Nat → Int32) (J : Nat → Nat → Int64) (D : Nat → Nat → UInt64) (R : Nat → Nat → Option Nat) (s0 : Nat) (s1 : Nat) : Option ((Shp) × (Nat → Nat → Int32) × (Nat → Nat → Int64) × (Nat → Nat → UInt64) × (Nat → Nat → Option Nat)) :=
  if kdx σ s0 = 5 then
  let R11 := u2 R s0 1 (some s1)
  let σ12 := mkA σ 21 (Int32.toNatClampNeg (9 : Int32))
  fX4_init_b31 t σ12 I J D R11 t (nxx σ + 4)
  else none
theorem mX4_init_b23 {σ : Shp} {I : Nat → Nat → Int32} {J : Nat → Nat → Int64} {D : Nat → Nat → UInt64} {R : Nat → Nat → Option Nat} {t : Nat} {σ9 : Shp} {I9 : Nat → Nat → Int32} {J9 : Nat → Nat → Int64} {D9 : Nat → Nat → UInt64} {R9 : Nat → Nat → Option Nat} {s0 : Nat} {s1 : Nat} (h : fX4_init_b23 t σ I J D R s0 s1 = some (σ9, I9, J9, D9, R9)) : Lex σ σ9 := by
  unfold fX4_init_b23 at h
  replace h := (gd h).2
  exact Lex_mkA (mX4_init_b31 h)
theorem wX4_init_b23 {G : Gx} {l : Launch} {σ0 : Shp} {σ : Shp} {I : Nat → Nat → Int32} {J : Nat → Nat → Int64} {D : Nat → Nat → UInt64} {R : Nat → Nat → Option Nat} {t : Nat} {σ9 : Shp} {I9 : Nat → Nat → Int32} {J9 : Nat → Nat → Int64} {D9 : Nat → Nat → UInt64} {R9 : Nat → Nat → Option Nat} {s0 : Nat} {s1 : Nat} (h : fX4_init_b23 t σ I J D R s0 s1 = some (σ9, I9, J9, D9, R9)) : WX4_init G l σ0 (σ9, I9, J9, D9, R9) none (σ, I, J, D, R) 23 [(0, vR (some t))] [vR (some s1), vR (some s0)] := by
  unfold fX4_init_b23 at h
  obtain ⟨g10, h⟩ := gd h
  refine r_putRF (pc := 23) dX4_init_23 fwX4_20 rfl rfl g10 ?_
  refine r_aload_n (pc := 26) dX4_init_26 rfl 0 rfl ?_
  refine r_bipush (pc := 27) dX4_init_27 kc_bipush_9 ?_
  refine r_newa (pc := 29) (t := 21) (ti := 1) (ty := .long) dX4_init_29 rfl (by decide) ac21 (by decide) (by decide) (Nat.sub_le_sub_right (mX4_init_b31 h).1 _) (Nat.sub_le_sub_right (mX4_init_b31 h).2 _) ?_
  refine r_sub [0] rfl ?_
  exact wX4_init_b31 h
def fX4_init_b12  (t : Nat) (σ : Shp) (I : Nat → Nat → Int32) (J : Nat → Nat → Int64) (D : Nat → Nat → UInt64) (R : Nat → Nat → Option Nat) (s0 : Nat) (s1 : Nat) : Option ((Shp) × (Nat → Nat → Int32) × (Nat → Nat → Int64) × (Nat → Nat → UInt64) × (Nat → Nat → Option Nat)) :=
  if kdx σ s0 = 5 then
  let R7 := u2 R s0 0 (some s1)
  let σ8 := mkM σ 28 (Int32.toNatClampNeg (9 : Int32)) (Int32.toNatClampNeg (5 : Int32))
  let R9 := mRr R7 (nxx σ + 4) (Int32.toNatClampNeg (9 : Int32))
  fX4_init_b23 t σ8 I J D R9 t (nxx σ + 4)
  else none
theorem mX4_init_b12 {σ : Shp} {I : Nat → Nat → Int32} {J : Nat → Nat → Int64} {D : Nat → Nat → UInt64} {R : Nat → Nat → Option Nat} {t : Nat} {σ9 : Shp} {I9 : Nat → Nat → Int32} {J9 : Nat → Nat → Int64} {D9 : Nat → Nat → UInt64} {R9 : Nat → Nat → Option Nat} {s0 : Nat} {s1 : Nat} (h : fX4_init_b12 t σ I J D R s0 s1 = some (σ9, I9, J9, D9, R9)) : Lex σ σ9 := by
  unfold fX4_init_b12 at h
  replace h := (gd h).2
  exact Lex_mkM (mX4_init_b23 h)
theorem wX4_init_b12 {G : Gx} {l : Launch} {σ0 : Shp} {σ : Shp} {I : Nat → Nat → Int32} {J : Nat → Nat → Int64} {D : Nat → Nat → UInt64} {R : Nat → Nat → Option Nat} {t : Nat} {σ9 : Shp} {I9 : Nat → Nat → Int32} {J9 : Nat → Nat → Int64} {D9 : Nat → Nat → UInt64} {R9 : Nat → Nat → Option Nat} {s0 : Nat} {s1 : Nat} (h : fX4_init_b12 t σ I J D R s0 s1 = some (σ9, I9, J9, D9, R9)) : WX4_init G l σ0 (σ9, I9, J9, D9, R9) none (σ, I, J, D, R) 12 [(0, vR (some t))] [vR (some s1), vR (some s0)] := by
  unfold fX4_init_b12 at h
  obtain ⟨g6, h⟩ := gd h
  refine r_putRF (pc := 12) dX4_init_12 fwX4_12 rfl rfl g6 ?_
  refine r_aload_n (pc := 15) dX4_init_15 rfl 0 rfl ?_
  refine r_bipush (pc := 16) dX4_init_16 kc_bipush_9 ?_
  refine r_iconst (pc := 18) dX4_init_18 kc_iconst_5 ?_
  refine r_multi (pc := 19) (t := 28) (ty := .int) dX4_init_19 (by decide) cnX4_18 ac20 (by decide) (by decide) (by decide) (by decide) (Nat.sub_le_sub_right (mX4_init_b23 h).1 _) (Nat.sub_le_sub_right (mX4_init_b23 h).2 _) ?_
  refine r_sub [0] rfl ?_
  exact wX4_init_b23 h
def fX4_init_b8  (t : Nat) (σ : Shp) (I : Nat → Nat → Int32) (J : Nat → Nat → Int64) (D : Nat → Nat → UInt64) (R : Nat → Nat → Option Nat) (s0 : Nat) (s1 : Nat) : Option ((Shp) × (Nat → Nat → Int32) × (Nat → Nat → Int64) × (Nat → Nat → UInt64) × (Nat → Nat → Option Nat)) :=
  if kdx σ s1 = 10 then
  (fX9_init σ R s1).bind fun (σ3, R4) =>
  fX4_init_b12 t σ3 I J D R4 s0 s1
  else none
theorem mX4_init_b8 {σ : Shp} {I : Nat → Nat → Int32} {J : Nat → Nat → Int64} {D : Nat → Nat → UInt64} {R : Nat → Nat → Option Nat} {t : Nat} {σ9 : Shp} {I9 : Nat → Nat → Int32} {J9 : Nat → Nat → Int64} {D9 : Nat → Nat → UInt64} {R9 : Nat → Nat → Option Nat} {s0 : Nat} {s1 : Nat} (h : fX4_init_b8 t σ I J D R s0 s1 = some (σ9, I9, J9, D9, R9)) : Lex σ σ9 := by
  unfold fX4_init_b8 at h
  replace h := (gd h).2
  obtain ⟨⟨σ3, R4⟩, hc5, h⟩ := ob h
  refine Lex.trans (mX9_init hc5) ?_
  exact mX4_init_b12 h
theorem wX4_init_b8 {G : Gx} {l : Launch} {σ0 : Shp} {σ : Shp} {I : Nat → Nat → Int32} {J : Nat → Nat → Int64} {D : Nat → Nat → UInt64} {R : Nat → Nat → Option Nat} {t : Nat} {σ9 : Shp} {I9 : Nat → Nat → Int32} {J9 : Nat → Nat → Int64} {D9 : Nat → Nat → UInt64} {R9 : Nat → Nat → Option Nat} {s0 : Nat} {s1 : Nat} (h : fX4_init_b8 t σ I J D R s0 s1 = some (σ9, I9, J9, D9, R9)) : WX4_init G l σ0 (σ9, I9, J9, D9, R9) none (σ, I, J, D, R) 8 [(0, vR (some t))] [vR (some s1), vR (some s0)] := by
  unfold fX4_init_b8 at h
  refine r_dup (pc := 8) dX4_init_8 rfl ?_
  obtain ⟨g2, h⟩ := gd h
  obtain ⟨⟨σ3, R4⟩, hc5, h⟩ := ob h
  refine r_callIN0 (pc := 9) (av := []) (S := [vR (some s1), vR (some s0)]) dX4_init_9 (kX9_init hc5) nkX4_11 rfl mwX9_init rfl ⟨Nat.le_of_ble_eq_true rfl, Nat.le_of_ble_eq_true rfl⟩ (Nat.le_of_ble_eq_true rfl) (mX9_init hc5) (bdx_le (mX9_init hc5) (mX4_init_b12 h)) ?_
  refine r_sub [0] rfl ?_
  exact wX4_init_b12 h
def fX4_init (σ : Shp) (I : Nat → Nat → Int32) (J : Nat → Nat → Int64) (D : Nat → Nat → UInt64) (R : Nat → Nat → Option Nat) (t : Nat)  : Option ((Shp) × (Nat → Nat → Int32) × (Nat → Nat → Int64) × (Nat → Nat → UInt64) × (Nat → Nat → Option Nat)) :=
  let σ1 := mkO σ 10 9
  fX4_init_b8 t σ1 I J D R t (nxx σ + 4)
theorem mX4_init {σ : Shp} {I : Nat → Nat → Int32} {J : Nat → Nat → Int64} {D : Nat → Nat → UInt64} {R : Nat → Nat → Option Nat} {t : Nat}  {σ9 : Shp} {I9 : Nat → Nat → Int32} {J9 : Nat → Nat → Int64} {D9 : Nat → Nat → UInt64} {R9 : Nat → Nat → Option Nat} (h : fX4_init σ I J D R t = some (σ9, I9, J9, D9, R9)) : Lex σ σ9 := by
  unfold fX4_init at h
  exact Lex_mkO (mX4_init_b8 h)
theorem kX4_init {G : Gx} {l : Launch} {σ : Shp} {I : Nat → Nat → Int32} {J : Nat → Nat → Int64} {D : Nat → Nat → UInt64} {R : Nat → Nat → Option Nat} {t : Nat}  {σ9 : Shp} {I9 : Nat → Nat → Int32} {J9 : Nat → Nat → Int64} {D9 : Nat → Nat → UInt64} {R9 : Nat → Nat → Option Nat} (h : fX4_init σ I J D R t = some (σ9, I9, J9, D9, R9)) : Con G l yX4_init cX4_init 2 none 2 40 [vR (some t)] (σ, I, J, D, R) (σ9, I9, J9, D9, R9) none := by
  unfold fX4_init at h
  refine Con.mk (by decide +kernel) rfl (Nat.le_of_ble_eq_true rfl) ?_
  show WX4_init G l σ (σ9, I9, J9, D9, R9) none (σ, I, J, D, R) 0 _ []
  refine r_aload_n (pc := 0) dX4_init_0 rfl 0 rfl ?_
  refine r_objInit (pc := 1) (S := []) dX4_init_1 obX4_3 obI obC (Nat.le_of_ble_eq_true rfl) (Nat.le_of_ble_eq_true rfl) (Nat.le_of_ble_eq_true rfl) ?_
  refine r_aload_n (pc := 4) dX4_init_4 rfl 0 rfl ?_
  refine r_new (pc := 5) dX4_init_5 cls9 ftk9 cnX4_9 ins9 ini9 (Nat.sub_le_sub_right (mX4_init_b8 h).1 _) (Nat.sub_le_sub_right (mX4_init_b8 h).2 _) ?_
  refine r_sub [0] rfl ?_
  exact wX4_init_b8 h
abbrev WX11_scaled (G : Gx) (l : Launch) (σ0 : Shp) (X1 : Stt) (rv : Option SV) : Stt → Nat → List (Nat × SV) → List SV → Prop := Wm G l yX11_scaled cX11_scaled 9 (some .double) (fun _ => True) (rmx 0 0 σ0 X1.1) σ0 (Qmx G σ0 X1 rv)
def fX11_scaled_l32   : Nat → (UInt64) → (UInt64) → (Int32) → (Int32) → Option ((UInt64))
  | 0, _, _, _, _ => none
  | n + 1, x3, x5, x7, x8 =>
    if (11 : Int32) ≤ x8 then
      some x3
    else
      if x7 ≤ 0 then
        some x3
      else
        if (x7 &&& (1 : Int32)) = (1 : Int32) then
          if (FP.dmul x3 x5) &&& 0x7fffffffffffffff ≤ 0x7ff0000000000000 then
          let v6 := (FP.dmul x3 x5)
          let v7 := (x7 >>> ((1 : Int32) &&& 31))
          if (FP.dmul x5 x5) &&& 0x7fffffffffffffff ≤ 0x7ff0000000000000 then
          let v9 := (FP.dmul x5 x5)
          let v10 := x8 + (1 : Int32)
          fX11_scaled_l32 n v6 v9 v7 v10
          else none
          else none
        else
          let v1 := (x7 >>> ((1 : Int32) &&& 31))
          if (FP.dmul x5 x5) &&& 0x7fffffffffffffff ≤ 0x7ff0000000000000 then
          let v3 := (FP.dmul x5 x5)
          let v4 := x8 + (1 : Int32)
          fX11_scaled_l32 n x3 v3 v1 v4
          else none
theorem wX11_scaled_l32 {G : Gx} {l : Launch} {σ : Shp} {I : Nat → Nat → Int32} {J : Nat → Nat → Int64} {D : Nat → Nat → UInt64} {R : Nat → Nat → Option Nat} {r9 : UInt64} : ∀ (n : Nat) (x3 : UInt64) (x5 : UInt64) (x7 : Int32) (x8 : Int32), fX11_scaled_l32 n x3 x5 x7 x8 = some r9 → WX11_scaled G l σ (σ, I, J, D, R) (some (vD r9)) (σ, I, J, D, R) 32 [(3, vD x3), (5, vD x5), (7, vI x7), (8, vI x8)] [] := by
  intro n
  induction n with
  | zero =>
    intro x3 x5 x7 x8 h
    have h : none = some _ := h
    cases h
  | succ n ih =>
    intro x3 x5 x7 x8 h
    rw [fX11_scaled_l32] at h
    refine r_iload (pc := 32) dX11_scaled_32 3 rfl ?_
    refine r_bipush (pc := 34) dX11_scaled_34 kc_bipush_11 ?_
    refine r_icmp_ge (pc := 36) (tgt := 76) dX11_scaled_36 rfl (fun c => ?_) (fun c => ?_)
    · have h := it h c
      refine r_dload_n (pc := 76) dX11_scaled_76 rfl 0 rfl ?_
      cases h
      exact r_dret dX11_scaled_77
    · have h := ie h c
      refine r_iload (pc := 39) dX11_scaled_39 2 rfl ?_
      refine r_if_le (pc := 41) (tgt := 76) dX11_scaled_41 rfl (fun c => ?_) (fun c => ?_)
      · have h := it h c
        refine r_dload_n (pc := 76) dX11_scaled_76 rfl 0 rfl ?_
        cases h
        exact r_dret dX11_scaled_77
      · have h := ie h c
        refine r_iload (pc := 44) dX11_scaled_44 2 rfl ?_
        refine r_iconst (pc := 46) dX11_scaled_46 kc_iconst_1 ?_
        refine r_iand (pc := 47) dX11_scaled_47 ?_
        refine r_iconst (pc := 48) dX11_scaled_48 kc_iconst_1 ?_
        refine r_icmp_ne (pc := 49) (tgt := 57) dX11_scaled_49 rfl (fun c => ?_) (fun c => ?_)
        · have h := ie h c
          refine r_iload (pc := 57) dX11_scaled_57 2 rfl ?_
          refine r_iconst (pc := 59) dX11_scaled_59 kc_iconst_1 ?_
          refine r_ishr (pc := 60) dX11_scaled_60 ?_
          refine r_istore (pc := 61) (L' := [(7, vI (x7 >>> ((1 : Int32) &&& 31))), (3, vD x3), (5, vD x5), (8, vI x8)]) dX11_scaled_61 (by decide) rfl ?_
          refine r_dload (pc := 63) dX11_scaled_63 2 rfl ?_
          refine r_dload (pc := 65) dX11_scaled_65 2 rfl ?_
          obtain ⟨g2, h⟩ := gd h
          refine r_dmul (pc := 67) dX11_scaled_67 g2 ?_
          refine r_dstore (pc := 68) (L' := [(5, vD (FP.dmul x5 x5)), (7, vI (x7 >>> ((1 : Int32) &&& 31))), (3, vD x3), (8, vI x8)]) dX11_scaled_68 (by decide) rfl ?_
          refine r_iinc (pc := 70) (v := (x8 + (1 : Int32))) (L' := [(8, vI (x8 + (1 : Int32))), (5, vD (FP.dmul x5 x5)), (7, vI (x7 >>> ((1 : Int32) &&& 31))), (3, vD x3)]) dX11_scaled_70 3 rfl (kc_inc_1 _) (by decide) rfl ?_
          refine r_goto (pc := 73) (tgt := 32) dX11_scaled_73 rfl ?_
          refine r_sub [3, 1, 2, 0] rfl ?_
          exact ih _ _ _ _ h
        · have h := it h c
          refine r_dload_n (pc := 52) dX11_scaled_52 rfl 0 rfl ?_
          refine r_dload (pc := 53) dX11_scaled_53 1 rfl ?_
          obtain ⟨g5, h⟩ := gd h
          refine r_dmul (pc := 55) dX11_scaled_55 g5 ?_
          refine r_dstore_n (pc := 56) (L' := [(3, vD (FP.dmul x3 x5)), (5, vD x5), (7, vI x7), (8, vI x8)]) dX11_scaled_56 rfl (by decide) rfl ?_
          refine r_iload (pc := 57) dX11_scaled_57 2 rfl ?_
          refine r_iconst (pc := 59) dX11_scaled_59 kc_iconst_1 ?_
          refine r_ishr (pc := 60) dX11_scaled_60 ?_
          refine r_istore (pc := 61) (L' := [(7, vI (x7 >>> ((1 : Int32) &&& 31))), (3, vD (FP.dmul x3 x5)), (5, vD x5), (8, vI x8)]) dX11_scaled_61 (by decide) rfl ?_
          refine r_dload (pc := 63) dX11_scaled_63 2 rfl ?_
          refine r_dload (pc := 65) dX11_scaled_65 2 rfl ?_
          obtain ⟨g8, h⟩ := gd h
          refine r_dmul (pc := 67) dX11_scaled_67 g8 ?_
          refine r_dstore (pc := 68) (L' := [(5, vD (FP.dmul x5 x5)), (7, vI (x7 >>> ((1 : Int32) &&& 31))), (3, vD (FP.dmul x3 x5)), (8, vI x8)]) dX11_scaled_68 (by decide) rfl ?_
          refine r_iinc (pc := 70) (v := (x8 + (1 : Int32))) (L' := [(8, vI (x8 + (1 : Int32))), (5, vD (FP.dmul x5 x5)), (7, vI (x7 >>> ((1 : Int32) &&& 31))), (3, vD (FP.dmul x3 x5))]) dX11_scaled_70 3 rfl (kc_inc_1 _) (by decide) rfl ?_
          refine r_goto (pc := 73) (tgt := 32) dX11_scaled_73 rfl ?_
          refine r_sub [3, 1, 2, 0] rfl ?_
          exact ih _ _ _ _ h
def fX11_scaled_b15  (x2 : Int32) (x3 : UInt64) (s0 : UInt64) : Option ((UInt64)) :=
  if 0 ≤ x2 then
    fX11_scaled_l32 FUx x3 s0 x2 (0 : Int32)
  else
    let v11 := (-x2)
    fX11_scaled_l32 FUx x3 s0 v11 (0 : Int32)
theorem wX11_scaled_b15 {G : Gx} {l : Launch} {σ : Shp} {I : Nat → Nat → Int32} {J : Nat → Nat → Int64} {D : Nat → Nat → UInt64} {R : Nat → Nat → Option Nat} {r9 : UInt64} {x2 : Int32} {x3 : UInt64} {s0 : UInt64} (h : fX11_scaled_b15 x2 x3 s0 = some r9) : WX11_scaled G l σ (σ, I, J, D, R) (some (vD r9)) (σ, I, J, D, R) 15 [(2, vI x2), (3, vD x3)] [vD s0] := by
  unfold fX11_scaled_b15 at h
  refine r_dstore (pc := 15) (L' := [(5, vD s0), (2, vI x2), (3, vD x3)]) dX11_scaled_15 (by decide) rfl ?_
  refine r_iload_n (pc := 17) dX11_scaled_17 rfl 1 rfl ?_
  refine r_ifge (pc := 18) (tgt := 26) dX11_scaled_18 rfl (fun c => ?_) (fun c => ?_)
  · have h := it h c
    refine r_iload_n (pc := 26) dX11_scaled_26 rfl 1 rfl ?_
    refine r_istore (pc := 27) (L' := [(7, vI x2), (5, vD s0), (2, vI x2), (3, vD x3)]) dX11_scaled_27 (by decide) rfl ?_
    refine r_iconst (pc := 29) dX11_scaled_29 kc_iconst_0 ?_
    refine r_istore (pc := 30) (L' := [(8, vI (0 : Int32)), (7, vI x2), (5, vD s0), (2, vI x2), (3, vD x3)]) dX11_scaled_30 (by decide) rfl ?_
    refine r_sub [4, 2, 1, 0] rfl ?_
    exact wX11_scaled_l32 _ _ _ _ _ h
  · have h := ie h c
    refine r_iload_n (pc := 21) dX11_scaled_21 rfl 1 rfl ?_
    refine r_ineg (pc := 22) dX11_scaled_22 ?_
    refine r_goto (pc := 23) (tgt := 27) dX11_scaled_23 rfl ?_
    refine r_istore (pc := 27) (L' := [(7, vI (-x2)), (5, vD s0), (2, vI x2), (3, vD x3)]) dX11_scaled_27 (by decide) rfl ?_
    refine r_iconst (pc := 29) dX11_scaled_29 kc_iconst_0 ?_
    refine r_istore (pc := 30) (L' := [(8, vI (0 : Int32)), (7, vI (-x2)), (5, vD s0), (2, vI x2), (3, vD x3)]) dX11_scaled_30 (by decide) rfl ?_
    refine r_sub [4, 2, 1, 0] rfl ?_
    exact wX11_scaled_l32 _ _ _ _ _ h
def fX11_scaled  (x0 : UInt64) (x2 : Int32) : Option ((UInt64)) :=
  if 0 ≤ x2 then
    fX11_scaled_b15 x2 x0 (4611686018427387904 : UInt64)
  else
    fX11_scaled_b15 x2 x0 (4602678819172646912 : UInt64)
theorem kX11_scaled {G : Gx} {l : Launch} {σ : Shp} {I : Nat → Nat → Int32} {J : Nat → Nat → Int64} {D : Nat → Nat → UInt64} {R : Nat → Nat → Option Nat} {x0 : UInt64} {x2 : Int32} {r9 : UInt64} (h : fX11_scaled x0 x2 = some r9) : Con G l yX11_scaled cX11_scaled 9 (some .double) 0 0 [vD x0, vI x2] (σ, I, J, D, R) (σ, I, J, D, R) (some (vD r9)) := by
  unfold fX11_scaled at h
  refine Con.mk (by decide +kernel) rfl (Nat.le_of_ble_eq_true rfl) ?_
  show WX11_scaled G l σ (σ, I, J, D, R) (some (vD r9)) (σ, I, J, D, R) 0 _ []
  refine r_dload_n (pc := 0) dX11_scaled_0 rfl 0 rfl ?_
  refine r_dstore_n (pc := 1) (L' := [(3, vD x0), (0, vD x0), (2, vI x2)]) dX11_scaled_1 rfl (by decide) rfl ?_
  refine r_iload_n (pc := 2) dX11_scaled_2 rfl 2 rfl ?_
  refine r_ifge (pc := 3) (tgt := 12) dX11_scaled_3 rfl (fun c => ?_) (fun c => ?_)
  · have h := it h c
    refine r_ldc2d (pc := 12) dX11_scaled_12 cdX11_571 ?_
    refine r_sub [2, 0] rfl ?_
    exact wX11_scaled_b15 h
  · have h := ie h c
    refine r_ldc2d (pc := 6) dX11_scaled_6 cdX11_569 ?_
    refine r_goto (pc := 9) (tgt := 15) dX11_scaled_9 rfl ?_
    refine r_sub [2, 0] rfl ?_
    exact wX11_scaled_b15 h
abbrev WX11_realOf (G : Gx) (l : Launch) (σ0 : Shp) (X1 : Stt) (rv : Option SV) : Stt → Nat → List (Nat × SV) → List SV → Prop := Wm G l yX11_realOf cX11_realOf 7 (some .double) (fun _ => True) (rmx 1 28 σ0 X1.1) σ0 (Qmx G σ0 X1 rv)
def fX11_realOf  (x0 : Int64) : Option ((UInt64)) :=
  let v1 := (Int64.toInt32 ((x0 >>> (Int32.toInt64 (52 : Int32) &&& 63)) &&& (2047 : Int64)))
  let v2 := (x0 &&& (4503599627370495 : Int64))
  if v1 = (2047 : Int32) then
    (fX11_scaled (FP.dconst1) (1024 : Int32)).bind fun r7 =>
    if (0 : Int64) ≤ x0 then
      some r7
    else
      some (FP.dneg r7)
  else
    if v1 = 0 then
      (fX11_scaled (FP.l2d v2) (-1074 : Int32)).bind fun r5 =>
      if (0 : Int64) ≤ x0 then
        some r5
      else
        some (FP.dneg r5)
    else
      (fX11_scaled (FP.l2d (v2 ||| (4503599627370496 : Int64))) (v1 - (1075 : Int32))).bind fun r3 =>
      if (0 : Int64) ≤ x0 then
        some r3
      else
        some (FP.dneg r3)
theorem kX11_realOf {G : Gx} {l : Launch} {σ : Shp} {I : Nat → Nat → Int32} {J : Nat → Nat → Int64} {D : Nat → Nat → UInt64} {R : Nat → Nat → Option Nat} {x0 : Int64} {r9 : UInt64} (h : fX11_realOf x0 = some r9) : Con G l yX11_realOf cX11_realOf 7 (some .double) 1 28 [vL x0] (σ, I, J, D, R) (σ, I, J, D, R) (some (vD r9)) := by
  unfold fX11_realOf at h
  refine Con.mk (by decide +kernel) rfl (Nat.le_of_ble_eq_true rfl) ?_
  show WX11_realOf G l σ (σ, I, J, D, R) (some (vD r9)) (σ, I, J, D, R) 0 _ []
  refine r_lload_n (pc := 0) dX11_realOf_0 rfl 0 rfl ?_
  refine r_bipush (pc := 1) dX11_realOf_1 kc_bipush_52 ?_
  refine r_lshr (pc := 3) dX11_realOf_3 ?_
  refine r_ldc2 (pc := 4) dX11_realOf_4 clX11_573 ?_
  refine r_land (pc := 7) dX11_realOf_7 ?_
  refine r_l2i (pc := 8) dX11_realOf_8 ?_
  refine r_istore_n (pc := 9) (L' := [(2, vI (Int64.toInt32 ((x0 >>> (Int32.toInt64 (52 : Int32) &&& 63)) &&& (2047 : Int64)))), (0, vL x0)]) dX11_realOf_9 rfl (by decide) rfl ?_
  refine r_lload_n (pc := 10) dX11_realOf_10 rfl 1 rfl ?_
  refine r_ldc2 (pc := 11) dX11_realOf_11 clX11_556 ?_
  refine r_land (pc := 14) dX11_realOf_14 ?_
  refine r_lstore_n (pc := 15) (L' := [(3, vL (x0 &&& (4503599627370495 : Int64))), (2, vI (Int64.toInt32 ((x0 >>> (Int32.toInt64 (52 : Int32) &&& 63)) &&& (2047 : Int64)))), (0, vL x0)]) dX11_realOf_15 rfl (by decide) rfl ?_
  refine r_iload_n (pc := 16) dX11_realOf_16 rfl 1 rfl ?_
  refine r_sipush (pc := 17) dX11_realOf_17 kc_sipush_2047 ?_
  refine r_icmp_ne (pc := 20) (tgt := 35) dX11_realOf_20 rfl (fun c => ?_) (fun c => ?_)
  · have h := ie h c
    refine r_iload_n (pc := 35) dX11_realOf_35 rfl 1 rfl ?_
    refine r_ifne (pc := 36) (tgt := 52) dX11_realOf_36 rfl (fun c => ?_) (fun c => ?_)
    · have h := ie h c
      refine r_lload_n (pc := 52) dX11_realOf_52 rfl 0 rfl ?_
      refine r_ldc2 (pc := 53) dX11_realOf_53 clX11_579 ?_
      refine r_lor (pc := 56) dX11_realOf_56 ?_
      refine r_l2d (pc := 57) dX11_realOf_57 ?_
      refine r_iload_n (pc := 58) dX11_realOf_58 rfl 1 rfl ?_
      refine r_sipush (pc := 59) dX11_realOf_59 kc_sipush_1075 ?_
      refine r_isub (pc := 62) dX11_realOf_62 ?_
      obtain ⟨r3, hc4, h⟩ := ob h
      refine r_callS1 (pc := 63) (av := [vD (FP.l2d ((x0 &&& (4503599627370495 : Int64)) ||| (4503599627370496 : Int64))), vI ((Int64.toInt32 ((x0 >>> (Int32.toInt64 (52 : Int32) &&& 63)) &&& (2047 : Int64))) - (1075 : Int32))]) (S := []) dX11_realOf_63 (kX11_scaled hc4) mkX11_575 mwX11_scaled rfl ⟨Nat.le_of_ble_eq_true rfl, Nat.le_of_ble_eq_true rfl⟩ (Nat.le_of_ble_eq_true rfl) ⟨Nat.le_refl _, Nat.le_refl _⟩ (fun b => b) ?_
      refine r_dstore (pc := 66) (L' := [(5, vD r3), (3, vL (x0 &&& (4503599627370495 : Int64))), (2, vI (Int64.toInt32 ((x0 >>> (Int32.toInt64 (52 : Int32) &&& 63)) &&& (2047 : Int64)))), (0, vL x0)]) dX11_realOf_66 (by decide) rfl ?_
      refine r_lload_n (pc := 68) dX11_realOf_68 rfl 3 rfl ?_
      refine r_lconst (pc := 69) dX11_realOf_69 kc_lconst_0 ?_
      refine r_lcmp (pc := 70) dX11_realOf_70 ?_
      refine r_ifge (pc := 71) (tgt := 80) dX11_realOf_71 rfl (fun c => ?_) (fun c => ?_)
      · have h := it h (lgc_ge.mp c)
        refine r_dload (pc := 80) dX11_realOf_80 0 rfl ?_
        cases h
        exact r_dret dX11_realOf_82
      · have h := ie h (fun q => c (lgc_ge.mpr q))
        refine r_dload (pc := 74) dX11_realOf_74 0 rfl ?_
        refine r_dneg (pc := 76) dX11_realOf_76 ?_
        refine r_goto (pc := 77) (tgt := 82) dX11_realOf_77 rfl ?_
        cases h
        exact r_dret dX11_realOf_82
    · have h := it h c
      refine r_lload_n (pc := 39) dX11_realOf_39 rfl 0 rfl ?_
      refine r_l2d (pc := 40) dX11_realOf_40 ?_
      refine r_sipush (pc := 41) dX11_realOf_41 kc_sipush_m1074 ?_
      obtain ⟨r5, hc6, h⟩ := ob h
      refine r_callS1 (pc := 44) (av := [vD (FP.l2d (x0 &&& (4503599627370495 : Int64))), vI (-1074 : Int32)]) (S := []) dX11_realOf_44 (kX11_scaled hc6) mkX11_575 mwX11_scaled rfl ⟨Nat.le_of_ble_eq_true rfl, Nat.le_of_ble_eq_true rfl⟩ (Nat.le_of_ble_eq_true rfl) ⟨Nat.le_refl _, Nat.le_refl _⟩ (fun b => b) ?_
      refine r_dstore (pc := 47) (L' := [(5, vD r5), (3, vL (x0 &&& (4503599627370495 : Int64))), (2, vI (Int64.toInt32 ((x0 >>> (Int32.toInt64 (52 : Int32) &&& 63)) &&& (2047 : Int64)))), (0, vL x0)]) dX11_realOf_47 (by decide) rfl ?_
      refine r_goto (pc := 49) (tgt := 68) dX11_realOf_49 rfl ?_
      refine r_lload_n (pc := 68) dX11_realOf_68 rfl 3 rfl ?_
      refine r_lconst (pc := 69) dX11_realOf_69 kc_lconst_0 ?_
      refine r_lcmp (pc := 70) dX11_realOf_70 ?_
      refine r_ifge (pc := 71) (tgt := 80) dX11_realOf_71 rfl (fun c => ?_) (fun c => ?_)
      · have h := it h (lgc_ge.mp c)
        refine r_dload (pc := 80) dX11_realOf_80 0 rfl ?_
        cases h
        exact r_dret dX11_realOf_82
      · have h := ie h (fun q => c (lgc_ge.mpr q))
        refine r_dload (pc := 74) dX11_realOf_74 0 rfl ?_
        refine r_dneg (pc := 76) dX11_realOf_76 ?_
        refine r_goto (pc := 77) (tgt := 82) dX11_realOf_77 rfl ?_
        cases h
        exact r_dret dX11_realOf_82
  · have h := it h c
    refine r_dconst1 (pc := 23) dX11_realOf_23 ?_
    refine r_sipush (pc := 24) dX11_realOf_24 kc_sipush_1024 ?_
    obtain ⟨r7, hc8, h⟩ := ob h
    refine r_callS1 (pc := 27) (av := [vD (FP.dconst1), vI (1024 : Int32)]) (S := []) dX11_realOf_27 (kX11_scaled hc8) mkX11_575 mwX11_scaled rfl ⟨Nat.le_of_ble_eq_true rfl, Nat.le_of_ble_eq_true rfl⟩ (Nat.le_of_ble_eq_true rfl) ⟨Nat.le_refl _, Nat.le_refl _⟩ (fun b => b) ?_
    refine r_dstore (pc := 30) (L' := [(5, vD r7), (3, vL (x0 &&& (4503599627370495 : Int64))), (2, vI (Int64.toInt32 ((x0 >>> (Int32.toInt64 (52 : Int32) &&& 63)) &&& (2047 : Int64)))), (0, vL x0)]) dX11_realOf_30 (by decide) rfl ?_
    refine r_goto (pc := 32) (tgt := 68) dX11_realOf_32 rfl ?_
    refine r_lload_n (pc := 68) dX11_realOf_68 rfl 3 rfl ?_
    refine r_lconst (pc := 69) dX11_realOf_69 kc_lconst_0 ?_
    refine r_lcmp (pc := 70) dX11_realOf_70 ?_
    refine r_ifge (pc := 71) (tgt := 80) dX11_realOf_71 rfl (fun c => ?_) (fun c => ?_)
    · have h := it h (lgc_ge.mp c)
      refine r_dload (pc := 80) dX11_realOf_80 0 rfl ?_
      cases h
      exact r_dret dX11_realOf_82
    · have h := ie h (fun q => c (lgc_ge.mpr q))
      refine r_dload (pc := 74) dX11_realOf_74 0 rfl ?_
      refine r_dneg (pc := 76) dX11_realOf_76 ?_
      refine r_goto (pc := 77) (tgt := 82) dX11_realOf_77 rfl ?_
      cases h
      exact r_dret dX11_realOf_82
abbrev WX4_takeReading (G : Gx) (l : Launch) (σ0 : Shp) (X1 : Stt) (rv : Option SV) : Stt → Nat → List (Nat × SV) → List SV → Prop := Wm G l yX4_takeReading cX4_takeReading 4 none (fun _ => True) (rmx 2 54 σ0 X1.1) σ0 (Qmx G σ0 X1 rv)
def fX4_takeReading (σ : Shp) (J : Nat → Nat → Int64) (D : Nat → Nat → UInt64) (R : Nat → Nat → Option Nat) (t : Nat) (x1 : Int32) (x2 : Int64) : Option ((Nat → Nat → Int64) × (Nat → Nat → UInt64)) :=
  if kdx σ t = 5 then
  ((R t 2) : Option Nat).bind fun a2 =>
  if kdx σ a2 = 21 then
  if ¬ (x1 < 0 ∨ lnx σ a2 ≤ Int32.toNatClampNeg x1) then
  let J5 := u2 J a2 (Int32.toNatClampNeg x1) x2
  ((R t 3) : Option Nat).bind fun a6 =>
  if (fX11_isNumber x2) = 0 then
    if kdx σ a6 = 25 then
    if ¬ (x1 < 0 ∨ lnx σ a6 ≤ Int32.toNatClampNeg x1) then
    let D9 := u2 D a6 (Int32.toNatClampNeg x1) (FP.dconst0)
    some (J5, D9)
    else none
    else none
  else
    (fX11_realOf x2).bind fun r10 =>
    if kdx σ a6 = 25 then
    if ¬ (x1 < 0 ∨ lnx σ a6 ≤ Int32.toNatClampNeg x1) then
    let D14 := u2 D a6 (Int32.toNatClampNeg x1) r10
    some (J5, D14)
    else none
    else none
  else none
  else none
  else none
theorem kX4_takeReading {G : Gx} {l : Launch} {σ : Shp} {I : Nat → Nat → Int32} {J : Nat → Nat → Int64} {D : Nat → Nat → UInt64} {R : Nat → Nat → Option Nat} {t : Nat} {x1 : Int32} {x2 : Int64} {J9 : Nat → Nat → Int64} {D9 : Nat → Nat → UInt64} (h : fX4_takeReading σ J D R t x1 x2 = some (J9, D9)) : Con G l yX4_takeReading cX4_takeReading 4 none 2 54 [vR (some t), vI x1, vL x2] (σ, I, J, D, R) (σ, I, J9, D9, R) none := by
  unfold fX4_takeReading at h
  refine Con.mk (by decide +kernel) rfl (Nat.le_of_ble_eq_true rfl) ?_
  show WX4_takeReading G l σ (σ, I, J9, D9, R) none (σ, I, J, D, R) 0 _ []
  refine r_aload_n (pc := 0) dX4_takeReading_0 rfl 0 rfl ?_
  obtain ⟨g1, h⟩ := gd h
  obtain ⟨a2, ha2, h⟩ := ob h
  refine r_getS (pc := 1) dX4_takeReading_1 fgX4_23 rfl g1 ha2 ?_
  refine r_iload_n (pc := 4) dX4_takeReading_4 rfl 1 rfl ?_
  refine r_lload_n (pc := 5) dX4_takeReading_5 rfl 2 rfl ?_
  obtain ⟨g3, h⟩ := gd h
  obtain ⟨g4, h⟩ := gd h
  refine r_lastore (pc := 6) dX4_takeReading_6 g3 g4 ?_
  refine r_aload_n (pc := 7) dX4_takeReading_7 rfl 0 rfl ?_
  obtain ⟨a6, ha6, h⟩ := ob h
  refine r_getS (pc := 8) dX4_takeReading_8 fgX4_27 rfl g1 ha6 ?_
  refine r_iload_n (pc := 11) dX4_takeReading_11 rfl 1 rfl ?_
  refine r_lload_n (pc := 12) dX4_takeReading_12 rfl 2 rfl ?_
  refine r_callSN1 (pc := 13) (av := [vL x2]) (S := [vI x1, vR (some a6)]) dX4_takeReading_13 (kX11_isNumber rfl) nkX4_70 mwX11_isNumber rfl ⟨Nat.le_of_ble_eq_true rfl, Nat.le_of_ble_eq_true rfl⟩ (Nat.le_of_ble_eq_true rfl) ⟨Nat.le_refl _, Nat.le_refl _⟩ (fun b => b) ?_
  refine r_if_eq (pc := 16) (tgt := 26) dX4_takeReading_16 rfl (fun c => ?_) (fun c => ?_)
  · have h := it h c
    refine r_dconst0 (pc := 26) dX4_takeReading_26 ?_
    obtain ⟨g7, h⟩ := gd h
    obtain ⟨g8, h⟩ := gd h
    refine r_dastore (pc := 27) dX4_takeReading_27 g7 g8 ?_
    cases h
    exact r_vret dX4_takeReading_28
  · have h := ie h c
    refine r_lload_n (pc := 19) dX4_takeReading_19 rfl 2 rfl ?_
    obtain ⟨r10, hc11, h⟩ := ob h
    refine r_callSN1 (pc := 20) (av := [vL x2]) (S := [vI x1, vR (some a6)]) dX4_takeReading_20 (kX11_realOf hc11) nkX4_74 mwX11_realOf rfl ⟨Nat.le_of_ble_eq_true rfl, Nat.le_of_ble_eq_true rfl⟩ (Nat.le_of_ble_eq_true rfl) ⟨Nat.le_refl _, Nat.le_refl _⟩ (fun b => b) ?_
    refine r_goto (pc := 23) (tgt := 27) dX4_takeReading_23 rfl ?_
    obtain ⟨g12, h⟩ := gd h
    obtain ⟨g13, h⟩ := gd h
    refine r_dastore (pc := 27) dX4_takeReading_27 g12 g13 ?_
    cases h
    exact r_vret dX4_takeReading_28
abbrev WX4_newWeather (G : Gx) (l : Launch) (σ0 : Shp) (X1 : Stt) (rv : Option SV) : Stt → Nat → List (Nat × SV) → List SV → Prop := Wm G l yX4_newWeather cX4_newWeather 4 (some .int) (fun _ => True) (rmx 0 0 σ0 X1.1) σ0 (Qmx G σ0 X1 rv)
def fX4_newWeather (σ : Shp) (I : Nat → Nat → Int32) (R : Nat → Nat → Option Nat) (t : Nat) (x1 : Int32) (x2 : Int32) : Option ((Nat → Nat → Int32) × (Int32)) :=
  if x1 < 0 then
    some (I, (-100000 : Int32))
  else
    if (4 : Int32) < x1 then
      some (I, (-100000 : Int32))
    else
      if ¬ (x1 < 0 ∨ 5 ≤ Int32.toNatClampNeg x1) then
      if x2 < (LEASTc (Int32.toNatClampNeg x1)) then
        some (I, (-100000 : Int32))
      else
        if x2 ≤ (MOSTc (Int32.toNatClampNeg x1)) then
          if kdx σ t = 5 then
          ((R t 9) : Option Nat).bind fun a3 =>
          if kdx σ a3 = 20 then
          if ¬ (x1 < 0 ∨ lnx σ a3 ≤ Int32.toNatClampNeg x1) then
          let v6 := (I a3 (Int32.toNatClampNeg x1))
          let I7 := u2 I a3 (Int32.toNatClampNeg x1) x2
          some (I7, v6)
          else none
          else none
          else none
        else
          some (I, (-100000 : Int32))
      else none
theorem kX4_newWeather {G : Gx} {l : Launch} {σ : Shp} {I : Nat → Nat → Int32} {J : Nat → Nat → Int64} {D : Nat → Nat → UInt64} {R : Nat → Nat → Option Nat} {t : Nat} {x1 : Int32} {x2 : Int32} {I9 : Nat → Nat → Int32} {r9 : Int32} (h : fX4_newWeather σ I R t x1 x2 = some (I9, r9)) : Con G l yX4_newWeather cX4_newWeather 4 (some .int) 0 0 [vR (some t), vI x1, vI x2] (σ, I, J, D, R) (σ, I9, J, D, R) (some (vI r9)) := by
  unfold fX4_newWeather at h
  refine Con.mk (by decide +kernel) rfl (Nat.le_of_ble_eq_true rfl) ?_
  show WX4_newWeather G l σ (σ, I9, J, D, R) (some (vI r9)) (σ, I, J, D, R) 0 _ []
  refine r_iload_n (pc := 0) dX4_newWeather_0 rfl 1 rfl ?_
  refine r_if_lt (pc := 1) (tgt := 27) dX4_newWeather_1 rfl (fun c => ?_) (fun c => ?_)
  · have h := it h c
    refine r_ldc (pc := 27) dX4_newWeather_27 ciX4_84 ?_
    cases h
    exact r_iret dX4_newWeather_29
  · have h := ie h c
    refine r_iload_n (pc := 4) dX4_newWeather_4 rfl 1 rfl ?_
    refine r_iconst (pc := 5) dX4_newWeather_5 kc_iconst_4 ?_
    refine r_icmp_gt (pc := 6) (tgt := 27) dX4_newWeather_6 rfl (fun c => ?_) (fun c => ?_)
    · have h := it h c
      refine r_ldc (pc := 27) dX4_newWeather_27 ciX4_84 ?_
      cases h
      exact r_iret dX4_newWeather_29
    · have h := ie h c
      refine r_iload_n (pc := 9) dX4_newWeather_9 rfl 2 rfl ?_
      refine r_gets1 (pc := 10) dX4_newWeather_10 gsX4_78 ?_
      refine r_iload_n (pc := 13) dX4_newWeather_13 rfl 1 rfl ?_
      obtain ⟨g1, h⟩ := gd h
      refine r_iald1 (pc := 14) dX4_newWeather_14 g1 ?_
      refine r_icmp_lt (pc := 15) (tgt := 27) dX4_newWeather_15 rfl (fun c => ?_) (fun c => ?_)
      · have h := it h c
        refine r_ldc (pc := 27) dX4_newWeather_27 ciX4_84 ?_
        cases h
        exact r_iret dX4_newWeather_29
      · have h := ie h c
        refine r_iload_n (pc := 18) dX4_newWeather_18 rfl 2 rfl ?_
        refine r_gets2 (pc := 19) dX4_newWeather_19 gsX4_81 ?_
        refine r_iload_n (pc := 22) dX4_newWeather_22 rfl 1 rfl ?_
        refine r_iald2 (pc := 23) dX4_newWeather_23 g1 ?_
        refine r_icmp_le (pc := 24) (tgt := 30) dX4_newWeather_24 rfl (fun c => ?_) (fun c => ?_)
        · have h := it h c
          refine r_aload_n (pc := 30) dX4_newWeather_30 rfl 0 rfl ?_
          obtain ⟨g2, h⟩ := gd h
          obtain ⟨a3, ha3, h⟩ := ob h
          refine r_getS (pc := 31) dX4_newWeather_31 fgX4_51 rfl g2 ha3 ?_
          refine r_iload_n (pc := 34) dX4_newWeather_34 rfl 1 rfl ?_
          obtain ⟨g4, h⟩ := gd h
          obtain ⟨g5, h⟩ := gd h
          refine r_iaload (pc := 35) dX4_newWeather_35 g4 g5 ?_
          refine r_istore_n (pc := 36) (L' := [(3, vI (I a3 (Int32.toNatClampNeg x1))), (0, vR (some t)), (1, vI x1), (2, vI x2)]) dX4_newWeather_36 rfl (by decide) rfl ?_
          refine r_aload_n (pc := 37) dX4_newWeather_37 rfl 1 rfl ?_
          refine r_getS (pc := 38) dX4_newWeather_38 fgX4_51 rfl g2 ha3 ?_
          refine r_iload_n (pc := 41) dX4_newWeather_41 rfl 2 rfl ?_
          refine r_iload_n (pc := 42) dX4_newWeather_42 rfl 3 rfl ?_
          refine r_iastore (pc := 43) dX4_newWeather_43 g4 g5 ?_
          refine r_iload_n (pc := 44) dX4_newWeather_44 rfl 0 rfl ?_
          cases h
          exact r_iret dX4_newWeather_45
        · have h := ie h c
          refine r_ldc (pc := 27) dX4_newWeather_27 ciX4_84 ?_
          cases h
          exact r_iret dX4_newWeather_29
abbrev WX9_hasLines (G : Gx) (l : Launch) (σ0 : Shp) (X1 : Stt) (rv : Option SV) : Stt → Nat → List (Nat × SV) → List SV → Prop := Wm G l yX9_hasLines cX9_hasLines 2 (some .boolean) (fun _ => True) (rmx 0 0 σ0 X1.1) σ0 (Qmx G σ0 X1 rv)
def fX9_hasLines (σ : Shp) (I : Nat → Nat → Int32) (R : Nat → Nat → Option Nat) (t : Nat) (x1 : Int32) : Option ((Int32)) :=
  if kdx σ t = 10 then
  ((R t 2) : Option Nat).bind fun a2 =>
  if kdx σ a2 = 20 then
  if ¬ (x1 < 0 ∨ lnx σ a2 ≤ Int32.toNatClampNeg x1) then
  if (I a2 (Int32.toNatClampNeg x1)) ≤ 0 then
    some (0 : Int32)
  else
    some (1 : Int32)
  else none
  else none
  else none
theorem kX9_hasLines {G : Gx} {l : Launch} {σ : Shp} {I : Nat → Nat → Int32} {J : Nat → Nat → Int64} {D : Nat → Nat → UInt64} {R : Nat → Nat → Option Nat} {t : Nat} {x1 : Int32} {r9 : Int32} (h : fX9_hasLines σ I R t x1 = some r9) : Con G l yX9_hasLines cX9_hasLines 2 (some .boolean) 0 0 [vR (some t), vI x1] (σ, I, J, D, R) (σ, I, J, D, R) (some (vI r9)) := by
  unfold fX9_hasLines at h
  refine Con.mk (by decide +kernel) rfl (Nat.le_of_ble_eq_true rfl) ?_
  show WX9_hasLines G l σ (σ, I, J, D, R) (some (vI r9)) (σ, I, J, D, R) 0 _ []
  refine r_aload_n (pc := 0) dX9_hasLines_0 rfl 0 rfl ?_
  obtain ⟨g1, h⟩ := gd h
  obtain ⟨a2, ha2, h⟩ := ob h
  refine r_getS (pc := 1) dX9_hasLines_1 fgX9_19 rfl g1 ha2 ?_
  refine r_iload_n (pc := 4) dX9_hasLines_4 rfl 1 rfl ?_
  obtain ⟨g3, h⟩ := gd h
  obtain ⟨g4, h⟩ := gd h
  refine r_iaload (pc := 5) dX9_hasLines_5 g3 g4 ?_
  refine r_if_le (pc := 6) (tgt := 13) dX9_hasLines_6 rfl (fun c => ?_) (fun c => ?_)
  · have h := it h c
    refine r_iconst (pc := 13) dX9_hasLines_13 kc_iconst_0 ?_
    cases h
    exact r_zret dX9_hasLines_14 (Or.inl rfl)
  · have h := ie h c
    refine r_iconst (pc := 9) dX9_hasLines_9 kc_iconst_1 ?_
    refine r_goto (pc := 10) (tgt := 14) dX9_hasLines_10 rfl ?_
    cases h
    exact r_zret dX9_hasLines_14 (Or.inr rfl)
abbrev WX9_layDown (G : Gx) (l : Launch) (dn wn : Nat) (σ0 : Shp) (X1 : Stt) (rv : Option SV) : Stt → Nat → List (Nat × SV) → List SV → Prop := Wm G l yX9_layDown cX9_layDown 4 none (fun _ => True) (rmx dn wn σ0 X1.1) σ0 (Qmx G σ0 X1 rv)
def fX9_layDown_b74 (fr : (Shp) → (Nat → Nat → Int32) → (Nat → Nat → Option Nat) → (Nat) → (Int32) → (Int32) → Option ((Nat → Nat → Int32)))  (σ : Shp) (R : Nat → Nat → Option Nat) (t : Nat) (I : Nat → Nat → Int32) (x1 : Int32) : Option ((Nat → Nat → Int32)) :=
  if kdx σ t = 10 then
  ((R t 6) : Option Nat).bind fun a11 =>
  if kdx σ a11 = 24 then
  if ¬ (x1 < 0 ∨ lnx σ a11 ≤ Int32.toNatClampNeg x1) then
  let I14 := u2 I a11 (Int32.toNatClampNeg x1) (vp_nar .boolean (1 : Int32))
  if (3 : Int32) ≤ (I14 t 8) then
    some I14
  else
    ((R t 7) : Option Nat).bind fun a15 =>
    if kdx σ a15 = 20 then
    if ¬ ((I14 t 8) < 0 ∨ lnx σ a15 ≤ Int32.toNatClampNeg (I14 t 8)) then
    let I18 := u2 I14 a15 (Int32.toNatClampNeg (I14 t 8)) x1
    let I19 := u2 I18 t 8 ((I18 t 8) + (1 : Int32))
    some I19
    else none
    else none
  else none
  else none
  else none
theorem wX9_layDown_b74 {G : Gx} {l : Launch} {dn wn dr wr : Nat} {σ : Shp} {I : Nat → Nat → Int32} {J : Nat → Nat → Int64} {D : Nat → Nat → UInt64} {R : Nat → Nat → Option Nat} {t : Nat} {I9 : Nat → Nat → Int32} {x1 : Int32} {fr : (Shp) → (Nat → Nat → Int32) → (Nat → Nat → Option Nat) → (Nat) → (Int32) → (Int32) → Option ((Nat → Nat → Int32))} (hdr : dr + 1 ≤ dn ∧ 23 + wr ≤ wn ∧ 0 ≤ dn ∧ 0 ≤ wn) (ihn : ∀ {σ : Shp} {I : Nat → Nat → Int32} {J : Nat → Nat → Int64} {D : Nat → Nat → UInt64} {R : Nat → Nat → Option Nat} {t : Nat} {x1 : Int32} {x2 : Int32} {I9 : Nat → Nat → Int32}, fr σ I R t x1 x2 = some I9 → Con G l yX9_layDown cX9_layDown 4 none dr wr [vR (some t), vI x1, vI x2] (σ, I, J, D, R) (σ, I9, J, D, R) none) (h : fX9_layDown_b74 fr σ R t I x1 = some I9) : WX9_layDown G l dn wn σ (σ, I9, J, D, R) none (σ, I, J, D, R) 74 [(0, vR (some t)), (1, vI x1)] [] := by
  unfold fX9_layDown_b74 at h
  refine r_aload_n (pc := 74) dX9_layDown_74 rfl 0 rfl ?_
  obtain ⟨g10, h⟩ := gd h
  obtain ⟨a11, ha11, h⟩ := ob h
  refine r_getS (pc := 75) dX9_layDown_75 fgX9_33 rfl g10 ha11 ?_
  refine r_iload_n (pc := 78) dX9_layDown_78 rfl 1 rfl ?_
  refine r_iconst (pc := 79) dX9_layDown_79 kc_iconst_1 ?_
  obtain ⟨g12, h⟩ := gd h
  obtain ⟨g13, h⟩ := gd h
  refine r_zastore (pc := 80) dX9_layDown_80 g12 g13 ?_
  refine r_aload_n (pc := 81) dX9_layDown_81 rfl 0 rfl ?_
  refine r_getI (pc := 82) dX9_layDown_82 fgX9_41 rfl g10 ?_
  refine r_iconst (pc := 85) dX9_layDown_85 kc_iconst_3 ?_
  refine r_icmp_ge (pc := 86) (tgt := 109) dX9_layDown_86 rfl (fun c => ?_) (fun c => ?_)
  · have h := it h c
    cases h
    exact r_vret dX9_layDown_109
  · have h := ie h c
    refine r_aload_n (pc := 89) dX9_layDown_89 rfl 0 rfl ?_
    obtain ⟨a15, ha15, h⟩ := ob h
    refine r_getS (pc := 90) dX9_layDown_90 fgX9_36 rfl g10 ha15 ?_
    refine r_aload_n (pc := 93) dX9_layDown_93 rfl 0 rfl ?_
    refine r_getI (pc := 94) dX9_layDown_94 fgX9_41 rfl g10 ?_
    refine r_iload_n (pc := 97) dX9_layDown_97 rfl 1 rfl ?_
    obtain ⟨g16, h⟩ := gd h
    obtain ⟨g17, h⟩ := gd h
    refine r_iastore (pc := 98) dX9_layDown_98 g16 g17 ?_
    refine r_aload_n (pc := 99) dX9_layDown_99 rfl 0 rfl ?_
    refine r_dup (pc := 100) dX9_layDown_100 rfl ?_
    refine r_getI (pc := 101) dX9_layDown_101 fgX9_41 rfl g10 ?_
    refine r_iconst (pc := 104) dX9_layDown_104 kc_iconst_1 ?_
    refine r_iadd (pc := 105) dX9_layDown_105 ?_
    refine r_putI (pc := 106) dX9_layDown_106 fwX9_41 rfl g10 ?_
    cases h
    exact r_vret dX9_layDown_109
def fX9_layDown_b47 (fr : (Shp) → (Nat → Nat → Int32) → (Nat → Nat → Option Nat) → (Nat) → (Int32) → (Int32) → Option ((Nat → Nat → Int32)))  (σ : Shp) (R : Nat → Nat → Option Nat) (t : Nat) (I : Nat → Nat → Int32) (x1 : Int32) (x3 : Int32) : Option ((Nat → Nat → Int32)) :=
  if kdx σ t = 10 then
  ((R t 4) : Option Nat).bind fun a22 =>
  ((R t 6) : Option Nat).bind fun a23 =>
  if kdx σ a23 = 24 then
  if ¬ (x3 < 0 ∨ lnx σ a23 ≤ Int32.toNatClampNeg x3) then
  if (I a23 (Int32.toNatClampNeg x3)) = 0 then
    if kdx σ a22 = 20 then
    if ¬ (x1 < 0 ∨ lnx σ a22 ≤ Int32.toNatClampNeg x1) then
    let I28 := u2 I a22 (Int32.toNatClampNeg x1) ((1 : Int32) + (0 : Int32))
    fX9_layDown_b74 fr σ R t I28 x1
    else none
    else none
  else
    if kdx σ a22 = 20 then
    if ¬ (x3 < 0 ∨ lnx σ a22 ≤ Int32.toNatClampNeg x3) then
    if ¬ (x1 < 0 ∨ lnx σ a22 ≤ Int32.toNatClampNeg x1) then
    let I32 := u2 I a22 (Int32.toNatClampNeg x1) ((1 : Int32) + (I a22 (Int32.toNatClampNeg x3)))
    fX9_layDown_b74 fr σ R t I32 x1
    else none
    else none
    else none
  else none
  else none
  else none
theorem wX9_layDown_b47 {G : Gx} {l : Launch} {dn wn dr wr : Nat} {σ : Shp} {I : Nat → Nat → Int32} {J : Nat → Nat → Int64} {D : Nat → Nat → UInt64} {R : Nat → Nat → Option Nat} {t : Nat} {I9 : Nat → Nat → Int32} {x1 : Int32} {x3 : Int32} {fr : (Shp) → (Nat → Nat → Int32) → (Nat → Nat → Option Nat) → (Nat) → (Int32) → (Int32) → Option ((Nat → Nat → Int32))} (hdr : dr + 1 ≤ dn ∧ 23 + wr ≤ wn ∧ 0 ≤ dn ∧ 0 ≤ wn) (ihn : ∀ {σ : Shp} {I : Nat → Nat → Int32} {J : Nat → Nat → Int64} {D : Nat → Nat → UInt64} {R : Nat → Nat → Option Nat} {t : Nat} {x1 : Int32} {x2 : Int32} {I9 : Nat → Nat → Int32}, fr σ I R t x1 x2 = some I9 → Con G l yX9_layDown cX9_layDown 4 none dr wr [vR (some t), vI x1, vI x2] (σ, I, J, D, R) (σ, I9, J, D, R) none) (h : fX9_layDown_b47 fr σ R t I x1 x3 = some I9) : WX9_layDown G l dn wn σ (σ, I9, J, D, R) none (σ, I, J, D, R) 47 [(0, vR (some t)), (1, vI x1), (3, vI x3)] [] := by
  unfold fX9_layDown_b47 at h
  refine r_aload_n (pc := 47) dX9_layDown_47 rfl 0 rfl ?_
  obtain ⟨g21, h⟩ := gd h
  obtain ⟨a22, ha22, h⟩ := ob h
  refine r_getS (pc := 48) dX9_layDown_48 fgX9_26 rfl g21 ha22 ?_
  refine r_iload_n (pc := 51) dX9_layDown_51 rfl 1 rfl ?_
  refine r_iconst (pc := 52) dX9_layDown_52 kc_iconst_1 ?_
  refine r_aload_n (pc := 53) dX9_layDown_53 rfl 0 rfl ?_
  obtain ⟨a23, ha23, h⟩ := ob h
  refine r_getS (pc := 54) dX9_layDown_54 fgX9_33 rfl g21 ha23 ?_
  refine r_iload_n (pc := 57) dX9_layDown_57 rfl 2 rfl ?_
  obtain ⟨g24, h⟩ := gd h
  obtain ⟨g25, h⟩ := gd h
  refine r_zaload (pc := 58) dX9_layDown_58 g24 g25 ?_
  refine r_if_eq (pc := 59) (tgt := 71) dX9_layDown_59 rfl (fun c => ?_) (fun c => ?_)
  · have h := it h c
    refine r_iconst (pc := 71) dX9_layDown_71 kc_iconst_0 ?_
    refine r_iadd (pc := 72) dX9_layDown_72 ?_
    obtain ⟨g26, h⟩ := gd h
    obtain ⟨g27, h⟩ := gd h
    refine r_iastore (pc := 73) dX9_layDown_73 g26 g27 ?_
    refine r_sub [0, 1] rfl ?_
    exact wX9_layDown_b74 hdr ihn h
  · have h := ie h c
    refine r_aload_n (pc := 62) dX9_layDown_62 rfl 0 rfl ?_
    refine r_getS (pc := 63) dX9_layDown_63 fgX9_26 rfl g21 ha22 ?_
    refine r_iload_n (pc := 66) dX9_layDown_66 rfl 2 rfl ?_
    obtain ⟨g29, h⟩ := gd h
    obtain ⟨g30, h⟩ := gd h
    refine r_iaload (pc := 67) dX9_layDown_67 g29 g30 ?_
    refine r_goto (pc := 68) (tgt := 72) dX9_layDown_68 rfl ?_
    refine r_iadd (pc := 72) dX9_layDown_72 ?_
    obtain ⟨g31, h⟩ := gd h
    refine r_iastore (pc := 73) dX9_layDown_73 g29 g31 ?_
    refine r_sub [0, 1] rfl ?_
    exact wX9_layDown_b74 hdr ihn h
def fX9_layDown : Nat → (Shp) → (Nat → Nat → Int32) → (Nat → Nat → Option Nat) → (Nat) → (Int32) → (Int32) → Option ((Nat → Nat → Int32))
  | 0, _, _, _, _, _, _ => none
  | n + 1, σ, I, R, t, x1, x2 =>
    if kdx σ t = 10 then
    ((R t 5) : Option Nat).bind fun a2 =>
    if kdx σ a2 = 24 then
    if ¬ (x1 < 0 ∨ lnx σ a2 ≤ Int32.toNatClampNeg x1) then
    let I5 := u2 I a2 (Int32.toNatClampNeg x1) (vp_nar .boolean (1 : Int32))
    ((R t 3) : Option Nat).bind fun a6 =>
    if kdx σ a6 = 20 then
    if ¬ (x1 < 0 ∨ lnx σ a6 ≤ Int32.toNatClampNeg x1) then
    let v9 := ((I5 a6 (Int32.toNatClampNeg x1)) - (1 : Int32))
    if v9 < 0 then
      fX9_layDown_b74 (fX9_layDown n) σ R t I5 x1
    else
      if (3 : Int32) ≤ v9 then
        fX9_layDown_b74 (fX9_layDown n) σ R t I5 x1
      else
        if ¬ (v9 < 0 ∨ lnx σ a2 ≤ Int32.toNatClampNeg v9) then
        if (I5 a2 (Int32.toNatClampNeg v9)) = 0 then
          if (3 : Int32) ≤ x2 then
            fX9_layDown_b47 (fX9_layDown n) σ R t I5 x1 v9
          else
            ((fX9_layDown n) σ I5 R t v9 (x2 + (1 : Int32))).bind fun I33 =>
            fX9_layDown_b47 (fX9_layDown n) σ R t I33 x1 v9
        else
          fX9_layDown_b47 (fX9_layDown n) σ R t I5 x1 v9
        else none
    else none
    else none
    else none
    else none
    else none
theorem kX9_layDown {G : Gx} {l : Launch} : ∀ (n : Nat) {σ : Shp} {I : Nat → Nat → Int32} {J : Nat → Nat → Int64} {D : Nat → Nat → UInt64} {R : Nat → Nat → Option Nat} {t : Nat} {x1 : Int32} {x2 : Int32} {I9 : Nat → Nat → Int32}, fX9_layDown n σ I R t x1 x2 = some I9 → Con G l yX9_layDown cX9_layDown 4 none (0 + n) (0 + 23 * n) [vR (some t), vI x1, vI x2] (σ, I, J, D, R) (σ, I9, J, D, R) none := by
  intro n
  induction n with
  | zero =>
    intro σ I J D R t x1 x2 I9 h
    have h : none = some _ := h
    cases h
  | succ n ihn =>
    intro σ I J D R t x1 x2 I9 h
    rw [fX9_layDown] at h
    have hdr : 0 + n + 1 ≤ 0 + (n + 1) ∧ 23 + (0 + 23 * n) ≤ 0 + 23 * (n + 1) ∧ 0 ≤ 0 + (n + 1) ∧ 0 ≤ 0 + 23 * (n + 1) := by omega
    refine Con.mk (by decide +kernel) rfl (Nat.le_of_ble_eq_true rfl) ?_
    show WX9_layDown G l (0 + (n + 1)) (0 + 23 * (n + 1)) σ (σ, I9, J, D, R) none (σ, I, J, D, R) 0 _ []
    refine r_aload_n (pc := 0) dX9_layDown_0 rfl 0 rfl ?_
    obtain ⟨g1, h⟩ := gd h
    obtain ⟨a2, ha2, h⟩ := ob h
    refine r_getS (pc := 1) dX9_layDown_1 fgX9_29 rfl g1 ha2 ?_
    refine r_iload_n (pc := 4) dX9_layDown_4 rfl 1 rfl ?_
    refine r_iconst (pc := 5) dX9_layDown_5 kc_iconst_1 ?_
    obtain ⟨g3, h⟩ := gd h
    obtain ⟨g4, h⟩ := gd h
    refine r_zastore (pc := 6) dX9_layDown_6 g3 g4 ?_
    refine r_aload_n (pc := 7) dX9_layDown_7 rfl 0 rfl ?_
    obtain ⟨a6, ha6, h⟩ := ob h
    refine r_getS (pc := 8) dX9_layDown_8 fgX9_23 rfl g1 ha6 ?_
    refine r_iload_n (pc := 11) dX9_layDown_11 rfl 1 rfl ?_
    obtain ⟨g7, h⟩ := gd h
    obtain ⟨g8, h⟩ := gd h
    refine r_iaload (pc := 12) dX9_layDown_12 g7 g8 ?_
    refine r_iconst (pc := 13) dX9_layDown_13 kc_iconst_1 ?_
    refine r_isub (pc := 14) dX9_layDown_14 ?_
    refine r_istore_n (pc := 15) (L' := [(3, vI (((u2 I a2 (Int32.toNatClampNeg x1) (vp_nar .boolean (1 : Int32))) a6 (Int32.toNatClampNeg x1)) - (1 : Int32))), (0, vR (some t)), (1, vI x1), (2, vI x2)]) dX9_layDown_15 rfl (by decide) rfl ?_
    refine r_iload_n (pc := 16) dX9_layDown_16 rfl 0 rfl ?_
    refine r_if_lt (pc := 17) (tgt := 74) dX9_layDown_17 rfl (fun c => ?_) (fun c => ?_)
    · have h := it h c
      refine r_sub [1, 2] rfl ?_
      exact wX9_layDown_b74 hdr ihn h
    · have h := ie h c
      refine r_iload_n (pc := 20) dX9_layDown_20 rfl 0 rfl ?_
      refine r_iconst (pc := 21) dX9_layDown_21 kc_iconst_3 ?_
      refine r_icmp_ge (pc := 22) (tgt := 74) dX9_layDown_22 rfl (fun c => ?_) (fun c => ?_)
      · have h := it h c
        refine r_sub [1, 2] rfl ?_
        exact wX9_layDown_b74 hdr ihn h
      · have h := ie h c
        refine r_aload_n (pc := 25) dX9_layDown_25 rfl 1 rfl ?_
        refine r_getS (pc := 26) dX9_layDown_26 fgX9_29 rfl g1 ha2 ?_
        refine r_iload_n (pc := 29) dX9_layDown_29 rfl 0 rfl ?_
        obtain ⟨g20, h⟩ := gd h
        refine r_zaload (pc := 30) dX9_layDown_30 g3 g20 ?_
        refine r_ifne (pc := 31) (tgt := 47) dX9_layDown_31 rfl (fun c => ?_) (fun c => ?_)
        · have h := ie h c
          refine r_sub [1, 2, 0] rfl ?_
          exact wX9_layDown_b47 hdr ihn h
        · have h := it h c
          refine r_iload_n (pc := 34) dX9_layDown_34 rfl 3 rfl ?_
          refine r_iconst (pc := 35) dX9_layDown_35 kc_iconst_3 ?_
          refine r_icmp_ge (pc := 36) (tgt := 47) dX9_layDown_36 rfl (fun c => ?_) (fun c => ?_)
          · have h := it h c
            refine r_sub [1, 2, 0] rfl ?_
            exact wX9_layDown_b47 hdr ihn h
          · have h := ie h c
            refine r_aload_n (pc := 39) dX9_layDown_39 rfl 1 rfl ?_
            refine r_iload_n (pc := 40) dX9_layDown_40 rfl 0 rfl ?_
            refine r_iload_n (pc := 41) dX9_layDown_41 rfl 3 rfl ?_
            refine r_iconst (pc := 42) dX9_layDown_42 kc_iconst_1 ?_
            refine r_iadd (pc := 43) dX9_layDown_43 ?_
            obtain ⟨I33, hc34, h⟩ := ob h
            refine r_callV0 (pc := 44) (av := [vI (((u2 I a2 (Int32.toNatClampNeg x1) (vp_nar .boolean (1 : Int32))) a6 (Int32.toNatClampNeg x1)) - (1 : Int32)), vI (x2 + (1 : Int32))]) (S := []) dX9_layDown_44 (ihn hc34) g1 rfl mkX9_45 mwX9_layDown rfl ⟨by simp only [rmx]; omega, by simp only [rmx]; omega⟩ (Nat.le_of_ble_eq_true rfl) ⟨Nat.le_refl _, Nat.le_refl _⟩ (fun b => b) ?_
            refine r_sub [1, 2, 0] rfl ?_
            exact wX9_layDown_b47 hdr ihn h
abbrev WXM_floorDiv (G : Gx) (l : Launch) (σ0 : Shp) (X1 : Stt) (rv : Option SV) : Stt → Nat → List (Nat × SV) → List SV → Prop := Wm G l yXM_floorDiv cXM_floorDiv 6 (some .long) (fun _ => True) (rmx 0 0 σ0 X1.1) σ0 (Qmx G σ0 X1 rv)
def fXM_floorDiv  (x0 : Int64) (x2 : Int64) : Option ((Int64)) :=
  if ¬ x2 = 0 then
  let v2 := (x0 / x2)
  if (0 : Int64) ≤ (x0 ^^^ x2) then
    some v2
  else
    if (v2 * x2) = x0 then
      some v2
    else
      some (v2 - (1 : Int64))
  else none
theorem kXM_floorDiv {G : Gx} {l : Launch} {σ : Shp} {I : Nat → Nat → Int32} {J : Nat → Nat → Int64} {D : Nat → Nat → UInt64} {R : Nat → Nat → Option Nat} {x0 : Int64} {x2 : Int64} {r9 : Int64} (h : fXM_floorDiv x0 x2 = some r9) : Con G l yXM_floorDiv cXM_floorDiv 6 (some .long) 0 0 [vL x0, vL x2] (σ, I, J, D, R) (σ, I, J, D, R) (some (vL r9)) := by
  unfold fXM_floorDiv at h
  refine Con.mkF (by decide +kernel) rfl (Nat.le_of_ble_eq_true rfl) ?_
  show WXM_floorDiv G l σ (σ, I, J, D, R) (some (vL r9)) (σ, I, J, D, R) 0 _ []
  refine r_lload_n (pc := 0) dXM_floorDiv_0 rfl 0 rfl ?_
  refine r_lload_n (pc := 1) dXM_floorDiv_1 rfl 1 rfl ?_
  obtain ⟨g1, h⟩ := gd h
  refine r_ldiv (pc := 2) dXM_floorDiv_2 g1 ?_
  refine r_lstore (pc := 3) (L' := [(4, vL (x0 / x2)), (0, vL x0), (2, vL x2)]) dXM_floorDiv_3 (by decide) rfl ?_
  refine r_lload_n (pc := 5) dXM_floorDiv_5 rfl 1 rfl ?_
  refine r_lload_n (pc := 6) dXM_floorDiv_6 rfl 2 rfl ?_
  refine r_lxor (pc := 7) dXM_floorDiv_7 ?_
  refine r_lconst (pc := 8) dXM_floorDiv_8 kc_lconst_0 ?_
  refine r_lcmp (pc := 9) dXM_floorDiv_9 ?_
  refine r_ifge (pc := 10) (tgt := 27) dXM_floorDiv_10 rfl (fun c => ?_) (fun c => ?_)
  · have h := it h (lgc_ge.mp c)
    refine r_lload (pc := 27) dXM_floorDiv_27 0 rfl ?_
    cases h
    exact r_lret dXM_floorDiv_29
  · have h := ie h (fun q => c (lgc_ge.mpr q))
    refine r_lload (pc := 13) dXM_floorDiv_13 0 rfl ?_
    refine r_lload_n (pc := 15) dXM_floorDiv_15 rfl 2 rfl ?_
    refine r_lmul (pc := 16) dXM_floorDiv_16 ?_
    refine r_lload_n (pc := 17) dXM_floorDiv_17 rfl 1 rfl ?_
    refine r_lcmp (pc := 18) dXM_floorDiv_18 ?_
    refine r_if_eq (pc := 19) (tgt := 27) dXM_floorDiv_19 rfl (fun c => ?_) (fun c => ?_)
    · have h := it h (lgc_eq.mp c)
      refine r_lload (pc := 27) dXM_floorDiv_27 0 rfl ?_
      cases h
      exact r_lret dXM_floorDiv_29
    · have h := ie h (fun q => c (lgc_eq.mpr q))
      refine r_lload (pc := 22) dXM_floorDiv_22 0 rfl ?_
      refine r_lconst (pc := 24) dXM_floorDiv_24 kc_lconst_1 ?_
      refine r_lsub (pc := 25) dXM_floorDiv_25 ?_
      cases h
      exact r_lret dXM_floorDiv_26
abbrev WX9_lineAt (G : Gx) (l : Launch) (σ0 : Shp) (X1 : Stt) (rv : Option SV) : Stt → Nat → List (Nat × SV) → List SV → Prop := Wm G l yX9_lineAt cX9_lineAt 10 (some .int) (fun _ => True) (rmx 1 25 σ0 X1.1) σ0 (Qmx G σ0 X1 rv)
def fX9_lineAt_b68  (σ : Shp) (I : Nat → Nat → Int32) (R : Nat → Nat → Option Nat) (t : Nat) (x1 : Int32) (x2 : Int32) (x4 : Int32) : Option ((Int32)) :=
  if x4 = 0 then
    if kdx σ t = 10 then
    ((R t 1) : Option Nat).bind fun a33 =>
    if kdx σ a33 = 28 then
    if ¬ (x1 < 0 ∨ lnx σ a33 ≤ Int32.toNatClampNeg x1) then
    ((R a33 (Int32.toNatClampNeg x1)) : Option Nat).bind fun a36 =>
    if kdx σ a36 = 20 then
    if ¬ ((0 : Int32) < 0 ∨ lnx σ a36 ≤ Int32.toNatClampNeg (0 : Int32)) then
    some (I a36 (Int32.toNatClampNeg (0 : Int32)))
    else none
    else none
    else none
    else none
    else none
  else
    let v12 := (x4 - (1 : Int32))
    if kdx σ t = 10 then
    ((R t 1) : Option Nat).bind fun a14 =>
    if kdx σ a14 = 28 then
    if ¬ (x1 < 0 ∨ lnx σ a14 ≤ Int32.toNatClampNeg x1) then
    ((R a14 (Int32.toNatClampNeg x1)) : Option Nat).bind fun a17 =>
    if kdx σ a17 = 20 then
    if ¬ (x4 < 0 ∨ lnx σ a17 ≤ Int32.toNatClampNeg x4) then
    if ¬ (v12 < 0 ∨ lnx σ a17 ≤ Int32.toNatClampNeg v12) then
    let v21 := ((Int32.toInt64 (I a17 (Int32.toNatClampNeg x4))) - (Int32.toInt64 (I a17 (Int32.toNatClampNeg v12))))
    ((R t 0) : Option Nat).bind fun a22 =>
    if kdx σ a22 = 28 then
    if ¬ (x1 < 0 ∨ lnx σ a22 ≤ Int32.toNatClampNeg x1) then
    ((R a22 (Int32.toNatClampNeg x1)) : Option Nat).bind fun a25 =>
    if kdx σ a25 = 20 then
    if ¬ (x4 < 0 ∨ lnx σ a25 ≤ Int32.toNatClampNeg x4) then
    if ¬ (v12 < 0 ∨ lnx σ a25 ≤ Int32.toNatClampNeg v12) then
    let v29 := ((Int32.toInt64 (I a25 (Int32.toNatClampNeg x4))) - (Int32.toInt64 (I a25 (Int32.toNatClampNeg v12))))
    if (0 : Int64) < v29 then
      (fXM_floorDiv (v21 * ((Int32.toInt64 x2) - (Int32.toInt64 (I a25 (Int32.toNatClampNeg v12))))) v29).bind fun r30 =>
      some (Int64.toInt32 ((Int32.toInt64 (I a17 (Int32.toNatClampNeg v12))) + r30))
    else
      some (I a17 (Int32.toNatClampNeg v12))
    else none
    else none
    else none
    else none
    else none
    else none
    else none
    else none
    else none
    else none
    else none
theorem wX9_lineAt_b68 {G : Gx} {l : Launch} {σ : Shp} {I : Nat → Nat → Int32} {J : Nat → Nat → Int64} {D : Nat → Nat → UInt64} {R : Nat → Nat → Option Nat} {t : Nat} {r9 : Int32} {x1 : Int32} {x2 : Int32} {x4 : Int32} (h : fX9_lineAt_b68 σ I R t x1 x2 x4 = some r9) : WX9_lineAt G l σ (σ, I, J, D, R) (some (vI r9)) (σ, I, J, D, R) 68 [(0, vR (some t)), (1, vI x1), (2, vI x2), (4, vI x4)] [] := by
  unfold fX9_lineAt_b68 at h
  refine r_iload (pc := 68) dX9_lineAt_68 3 rfl ?_
  refine r_ifne (pc := 70) (tgt := 82) dX9_lineAt_70 rfl (fun c => ?_) (fun c => ?_)
  · have h := ie h c
    refine r_iload (pc := 82) dX9_lineAt_82 3 rfl ?_
    refine r_iconst (pc := 84) dX9_lineAt_84 kc_iconst_1 ?_
    refine r_isub (pc := 85) dX9_lineAt_85 ?_
    refine r_istore (pc := 86) (L' := [(5, vI (x4 - (1 : Int32))), (0, vR (some t)), (1, vI x1), (2, vI x2), (4, vI x4)]) dX9_lineAt_86 (by decide) rfl ?_
    refine r_aload_n (pc := 88) dX9_lineAt_88 rfl 1 rfl ?_
    obtain ⟨g13, h⟩ := gd h
    obtain ⟨a14, ha14, h⟩ := ob h
    refine r_getS (pc := 89) dX9_lineAt_89 fgX9_16 rfl g13 ha14 ?_
    refine r_iload_n (pc := 92) dX9_lineAt_92 rfl 2 rfl ?_
    obtain ⟨g15, h⟩ := gd h
    obtain ⟨g16, h⟩ := gd h
    refine r_aaload (pc := 93) dX9_lineAt_93 g15 (by decide) g16 ?_
    obtain ⟨a17, ha17, h⟩ := ob h
    refine r_ref0 ha17 ?_
    refine r_iload (pc := 94) dX9_lineAt_94 4 rfl ?_
    obtain ⟨g18, h⟩ := gd h
    obtain ⟨g19, h⟩ := gd h
    refine r_iaload (pc := 96) dX9_lineAt_96 g18 g19 ?_
    refine r_i2l (pc := 97) dX9_lineAt_97 ?_
    refine r_aload_n (pc := 98) dX9_lineAt_98 rfl 1 rfl ?_
    refine r_getS (pc := 99) dX9_lineAt_99 fgX9_16 rfl g13 ha14 ?_
    refine r_iload_n (pc := 102) dX9_lineAt_102 rfl 2 rfl ?_
    refine r_aaload (pc := 103) dX9_lineAt_103 g15 (by decide) g16 ?_
    refine r_ref0 ha17 ?_
    refine r_iload (pc := 104) dX9_lineAt_104 0 rfl ?_
    obtain ⟨g20, h⟩ := gd h
    refine r_iaload (pc := 106) dX9_lineAt_106 g18 g20 ?_
    refine r_i2l (pc := 107) dX9_lineAt_107 ?_
    refine r_lsub (pc := 108) dX9_lineAt_108 ?_
    refine r_lstore (pc := 109) (L' := [(6, vL ((Int32.toInt64 (I a17 (Int32.toNatClampNeg x4))) - (Int32.toInt64 (I a17 (Int32.toNatClampNeg (x4 - (1 : Int32))))))), (5, vI (x4 - (1 : Int32))), (0, vR (some t)), (1, vI x1), (2, vI x2), (4, vI x4)]) dX9_lineAt_109 (by decide) rfl ?_
    refine r_aload_n (pc := 111) dX9_lineAt_111 rfl 2 rfl ?_
    obtain ⟨a22, ha22, h⟩ := ob h
    refine r_getS (pc := 112) dX9_lineAt_112 fgX9_13 rfl g13 ha22 ?_
    refine r_iload_n (pc := 115) dX9_lineAt_115 rfl 3 rfl ?_
    obtain ⟨g23, h⟩ := gd h
    obtain ⟨g24, h⟩ := gd h
    refine r_aaload (pc := 116) dX9_lineAt_116 g23 (by decide) g24 ?_
    obtain ⟨a25, ha25, h⟩ := ob h
    refine r_ref0 ha25 ?_
    refine r_iload (pc := 117) dX9_lineAt_117 5 rfl ?_
    obtain ⟨g26, h⟩ := gd h
    obtain ⟨g27, h⟩ := gd h
    refine r_iaload (pc := 119) dX9_lineAt_119 g26 g27 ?_
    refine r_i2l (pc := 120) dX9_lineAt_120 ?_
    refine r_aload_n (pc := 121) dX9_lineAt_121 rfl 2 rfl ?_
    refine r_getS (pc := 122) dX9_lineAt_122 fgX9_13 rfl g13 ha22 ?_
    refine r_iload_n (pc := 125) dX9_lineAt_125 rfl 3 rfl ?_
    refine r_aaload (pc := 126) dX9_lineAt_126 g23 (by decide) g24 ?_
    refine r_ref0 ha25 ?_
    refine r_iload (pc := 127) dX9_lineAt_127 1 rfl ?_
    obtain ⟨g28, h⟩ := gd h
    refine r_iaload (pc := 129) dX9_lineAt_129 g26 g28 ?_
    refine r_i2l (pc := 130) dX9_lineAt_130 ?_
    refine r_lsub (pc := 131) dX9_lineAt_131 ?_
    refine r_lstore (pc := 132) (L' := [(8, vL ((Int32.toInt64 (I a25 (Int32.toNatClampNeg x4))) - (Int32.toInt64 (I a25 (Int32.toNatClampNeg (x4 - (1 : Int32))))))), (6, vL ((Int32.toInt64 (I a17 (Int32.toNatClampNeg x4))) - (Int32.toInt64 (I a17 (Int32.toNatClampNeg (x4 - (1 : Int32))))))), (5, vI (x4 - (1 : Int32))), (0, vR (some t)), (1, vI x1), (2, vI x2), (4, vI x4)]) dX9_lineAt_132 (by decide) rfl ?_
    refine r_lload (pc := 134) dX9_lineAt_134 0 rfl ?_
    refine r_lconst (pc := 136) dX9_lineAt_136 kc_lconst_0 ?_
    refine r_lcmp (pc := 137) dX9_lineAt_137 ?_
    refine r_ifgt (pc := 138) (tgt := 151) dX9_lineAt_138 rfl (fun c => ?_) (fun c => ?_)
    · have h := it h (lgc_gt.mp c)
      refine r_aload_n (pc := 151) dX9_lineAt_151 rfl 3 rfl ?_
      refine r_getS (pc := 152) dX9_lineAt_152 fgX9_16 rfl g13 ha14 ?_
      refine r_iload_n (pc := 155) dX9_lineAt_155 rfl 4 rfl ?_
      refine r_aaload (pc := 156) dX9_lineAt_156 g15 (by decide) g16 ?_
      refine r_ref0 ha17 ?_
      refine r_iload (pc := 157) dX9_lineAt_157 2 rfl ?_
      refine r_iaload (pc := 159) dX9_lineAt_159 g18 g20 ?_
      refine r_i2l (pc := 160) dX9_lineAt_160 ?_
      refine r_lload (pc := 161) dX9_lineAt_161 1 rfl ?_
      refine r_iload_n (pc := 163) dX9_lineAt_163 rfl 5 rfl ?_
      refine r_i2l (pc := 164) dX9_lineAt_164 ?_
      refine r_aload_n (pc := 165) dX9_lineAt_165 rfl 3 rfl ?_
      refine r_getS (pc := 166) dX9_lineAt_166 fgX9_13 rfl g13 ha22 ?_
      refine r_iload_n (pc := 169) dX9_lineAt_169 rfl 4 rfl ?_
      refine r_aaload (pc := 170) dX9_lineAt_170 g23 (by decide) g24 ?_
      refine r_ref0 ha25 ?_
      refine r_iload (pc := 171) dX9_lineAt_171 2 rfl ?_
      refine r_iaload (pc := 173) dX9_lineAt_173 g26 g28 ?_
      refine r_i2l (pc := 174) dX9_lineAt_174 ?_
      refine r_lsub (pc := 175) dX9_lineAt_175 ?_
      refine r_lmul (pc := 176) dX9_lineAt_176 ?_
      refine r_lload (pc := 177) dX9_lineAt_177 0 rfl ?_
      obtain ⟨r30, hc31, h⟩ := ob h
      refine r_callS1 (pc := 179) (av := [vL (((Int32.toInt64 (I a17 (Int32.toNatClampNeg x4))) - (Int32.toInt64 (I a17 (Int32.toNatClampNeg (x4 - (1 : Int32)))))) * ((Int32.toInt64 x2) - (Int32.toInt64 (I a25 (Int32.toNatClampNeg (x4 - (1 : Int32))))))), vL ((Int32.toInt64 (I a25 (Int32.toNatClampNeg x4))) - (Int32.toInt64 (I a25 (Int32.toNatClampNeg (x4 - (1 : Int32))))))]) (S := [vL (Int32.toInt64 (I a17 (Int32.toNatClampNeg (x4 - (1 : Int32)))))]) dX9_lineAt_179 (kXM_floorDiv hc31) mkX9_53 mwXM_floorDiv rfl ⟨Nat.le_of_ble_eq_true rfl, Nat.le_of_ble_eq_true rfl⟩ (Nat.le_of_ble_eq_true rfl) ⟨Nat.le_refl _, Nat.le_refl _⟩ (fun b => b) ?_
      refine r_ladd (pc := 182) dX9_lineAt_182 ?_
      refine r_l2i (pc := 183) dX9_lineAt_183 ?_
      cases h
      exact r_iret dX9_lineAt_184
    · have h := ie h (fun q => c (lgc_gt.mpr q))
      refine r_aload_n (pc := 141) dX9_lineAt_141 rfl 3 rfl ?_
      refine r_getS (pc := 142) dX9_lineAt_142 fgX9_16 rfl g13 ha14 ?_
      refine r_iload_n (pc := 145) dX9_lineAt_145 rfl 4 rfl ?_
      refine r_aaload (pc := 146) dX9_lineAt_146 g15 (by decide) g16 ?_
      refine r_ref0 ha17 ?_
      refine r_iload (pc := 147) dX9_lineAt_147 2 rfl ?_
      refine r_iaload (pc := 149) dX9_lineAt_149 g18 g20 ?_
      cases h
      exact r_iret dX9_lineAt_150
  · have h := it h c
    refine r_aload_n (pc := 73) dX9_lineAt_73 rfl 0 rfl ?_
    obtain ⟨g32, h⟩ := gd h
    obtain ⟨a33, ha33, h⟩ := ob h
    refine r_getS (pc := 74) dX9_lineAt_74 fgX9_16 rfl g32 ha33 ?_
    refine r_iload_n (pc := 77) dX9_lineAt_77 rfl 1 rfl ?_
    obtain ⟨g34, h⟩ := gd h
    obtain ⟨g35, h⟩ := gd h
    refine r_aaload (pc := 78) dX9_lineAt_78 g34 (by decide) g35 ?_
    obtain ⟨a36, ha36, h⟩ := ob h
    refine r_ref0 ha36 ?_
    refine r_iconst (pc := 79) dX9_lineAt_79 kc_iconst_0 ?_
    obtain ⟨g37, h⟩ := gd h
    obtain ⟨g38, h⟩ := gd h
    refine r_iaload (pc := 80) dX9_lineAt_80 g37 g38 ?_
    cases h
    exact r_iret dX9_lineAt_81
def fX9_lineAt_l41  (σ : Shp) (I : Nat → Nat → Int32) (R : Nat → Nat → Option Nat) (t : Nat) : Nat → (Int32) → (Int32) → (Int32) → (Int32) → Option ((Int32))
  | 0, _, _, _, _ => none
  | n + 1, x1, x2, x3, x4 =>
    if (x3 - (1 : Int32)) ≤ x4 then
      fX9_lineAt_b68 σ I R t x1 x2 x4
    else
      if kdx σ t = 10 then
      ((R t 0) : Option Nat).bind fun a40 =>
      if kdx σ a40 = 28 then
      if ¬ (x1 < 0 ∨ lnx σ a40 ≤ Int32.toNatClampNeg x1) then
      ((R a40 (Int32.toNatClampNeg x1)) : Option Nat).bind fun a43 =>
      if kdx σ a43 = 20 then
      if ¬ (x4 < 0 ∨ lnx σ a43 ≤ Int32.toNatClampNeg x4) then
      if x2 < (I a43 (Int32.toNatClampNeg x4)) then
        fX9_lineAt_b68 σ I R t x1 x2 x4
      else
        let v46 := x4 + (1 : Int32)
        fX9_lineAt_l41 σ I R t n x1 x2 x3 v46
      else none
      else none
      else none
      else none
      else none
theorem wX9_lineAt_l41 {G : Gx} {l : Launch} {σ : Shp} {I : Nat → Nat → Int32} {J : Nat → Nat → Int64} {D : Nat → Nat → UInt64} {R : Nat → Nat → Option Nat} {t : Nat} {r9 : Int32} : ∀ (n : Nat) (x1 : Int32) (x2 : Int32) (x3 : Int32) (x4 : Int32), fX9_lineAt_l41 σ I R t n x1 x2 x3 x4 = some r9 → WX9_lineAt G l σ (σ, I, J, D, R) (some (vI r9)) (σ, I, J, D, R) 41 [(0, vR (some t)), (1, vI x1), (2, vI x2), (3, vI x3), (4, vI x4)] [] := by
  intro n
  induction n with
  | zero =>
    intro x1 x2 x3 x4 h
    have h : none = some _ := h
    cases h
  | succ n ih =>
    intro x1 x2 x3 x4 h
    rw [fX9_lineAt_l41] at h
    refine r_iload (pc := 41) dX9_lineAt_41 4 rfl ?_
    refine r_iload_n (pc := 43) dX9_lineAt_43 rfl 3 rfl ?_
    refine r_iconst (pc := 44) dX9_lineAt_44 kc_iconst_1 ?_
    refine r_isub (pc := 45) dX9_lineAt_45 ?_
    refine r_icmp_ge (pc := 46) (tgt := 68) dX9_lineAt_46 rfl (fun c => ?_) (fun c => ?_)
    · have h := it h c
      refine r_sub [0, 1, 2, 4] rfl ?_
      exact wX9_lineAt_b68 h
    · have h := ie h c
      refine r_aload_n (pc := 49) dX9_lineAt_49 rfl 0 rfl ?_
      obtain ⟨g39, h⟩ := gd h
      obtain ⟨a40, ha40, h⟩ := ob h
      refine r_getS (pc := 50) dX9_lineAt_50 fgX9_13 rfl g39 ha40 ?_
      refine r_iload_n (pc := 53) dX9_lineAt_53 rfl 1 rfl ?_
      obtain ⟨g41, h⟩ := gd h
      obtain ⟨g42, h⟩ := gd h
      refine r_aaload (pc := 54) dX9_lineAt_54 g41 (by decide) g42 ?_
      obtain ⟨a43, ha43, h⟩ := ob h
      refine r_ref0 ha43 ?_
      refine r_iload (pc := 55) dX9_lineAt_55 4 rfl ?_
      obtain ⟨g44, h⟩ := gd h
      obtain ⟨g45, h⟩ := gd h
      refine r_iaload (pc := 57) dX9_lineAt_57 g44 g45 ?_
      refine r_iload_n (pc := 58) dX9_lineAt_58 rfl 2 rfl ?_
      refine r_icmp_gt (pc := 59) (tgt := 68) dX9_lineAt_59 rfl (fun c => ?_) (fun c => ?_)
      · have h := it h c
        refine r_sub [0, 1, 2, 4] rfl ?_
        exact wX9_lineAt_b68 h
      · have h := ie h c
        refine r_iinc (pc := 62) (v := (x4 + (1 : Int32))) (L' := [(4, vI (x4 + (1 : Int32))), (0, vR (some t)), (1, vI x1), (2, vI x2), (3, vI x3)]) dX9_lineAt_62 4 rfl (kc_inc_1 _) (by decide) rfl ?_
        refine r_goto (pc := 65) (tgt := 41) dX9_lineAt_65 rfl ?_
        refine r_sub [1, 2, 3, 4, 0] rfl ?_
        exact ih _ _ _ _ h
def fX9_lineAt (σ : Shp) (I : Nat → Nat → Int32) (R : Nat → Nat → Option Nat) (t : Nat) (x1 : Int32) (x2 : Int32) : Option ((Int32)) :=
  if kdx σ t = 10 then
  ((R t 2) : Option Nat).bind fun a2 =>
  if kdx σ a2 = 20 then
  if ¬ (x1 < 0 ∨ lnx σ a2 ≤ Int32.toNatClampNeg x1) then
  let v5 := (I a2 (Int32.toNatClampNeg x1))
  if v5 = 0 then
    some (0 : Int32)
  else
    ((R t 0) : Option Nat).bind fun a6 =>
    if kdx σ a6 = 28 then
    if ¬ (x1 < 0 ∨ lnx σ a6 ≤ Int32.toNatClampNeg x1) then
    ((R a6 (Int32.toNatClampNeg x1)) : Option Nat).bind fun a9 =>
    if kdx σ a9 = 20 then
    if ¬ ((v5 - (1 : Int32)) < 0 ∨ lnx σ a9 ≤ Int32.toNatClampNeg (v5 - (1 : Int32))) then
    if x2 < (I a9 (Int32.toNatClampNeg (v5 - (1 : Int32)))) then
      fX9_lineAt_l41 σ I R t FUx x1 x2 v5 (0 : Int32)
    else
      ((R t 1) : Option Nat).bind fun a47 =>
      if kdx σ a47 = 28 then
      if ¬ (x1 < 0 ∨ lnx σ a47 ≤ Int32.toNatClampNeg x1) then
      ((R a47 (Int32.toNatClampNeg x1)) : Option Nat).bind fun a50 =>
      if kdx σ a50 = 20 then
      if ¬ ((v5 - (1 : Int32)) < 0 ∨ lnx σ a50 ≤ Int32.toNatClampNeg (v5 - (1 : Int32))) then
      some (I a50 (Int32.toNatClampNeg (v5 - (1 : Int32))))
      else none
      else none
      else none
      else none
    else none
    else none
    else none
    else none
  else none
  else none
  else none
theorem kX9_lineAt {G : Gx} {l : Launch} {σ : Shp} {I : Nat → Nat → Int32} {J : Nat → Nat → Int64} {D : Nat → Nat → UInt64} {R : Nat → Nat → Option Nat} {t : Nat} {x1 : Int32} {x2 : Int32} {r9 : Int32} (h : fX9_lineAt σ I R t x1 x2 = some r9) : Con G l yX9_lineAt cX9_lineAt 10 (some .int) 1 25 [vR (some t), vI x1, vI x2] (σ, I, J, D, R) (σ, I, J, D, R) (some (vI r9)) := by
  unfold fX9_lineAt at h
  refine Con.mk (by decide +kernel) rfl (Nat.le_of_ble_eq_true rfl) ?_
  show WX9_lineAt G l σ (σ, I, J, D, R) (some (vI r9)) (σ, I, J, D, R) 0 _ []
  refine r_aload_n (pc := 0) dX9_lineAt_0 rfl 0 rfl ?_
  obtain ⟨g1, h⟩ := gd h
  obtain ⟨a2, ha2, h⟩ := ob h
  refine r_getS (pc := 1) dX9_lineAt_1 fgX9_19 rfl g1 ha2 ?_
  refine r_iload_n (pc := 4) dX9_lineAt_4 rfl 1 rfl ?_
  obtain ⟨g3, h⟩ := gd h
  obtain ⟨g4, h⟩ := gd h
  refine r_iaload (pc := 5) dX9_lineAt_5 g3 g4 ?_
  refine r_istore_n (pc := 6) (L' := [(3, vI (I a2 (Int32.toNatClampNeg x1))), (0, vR (some t)), (1, vI x1), (2, vI x2)]) dX9_lineAt_6 rfl (by decide) rfl ?_
  refine r_iload_n (pc := 7) dX9_lineAt_7 rfl 0 rfl ?_
  refine r_ifne (pc := 8) (tgt := 13) dX9_lineAt_8 rfl (fun c => ?_) (fun c => ?_)
  · have h := ie h c
    refine r_iload_n (pc := 13) dX9_lineAt_13 rfl 3 rfl ?_
    refine r_aload_n (pc := 14) dX9_lineAt_14 rfl 1 rfl ?_
    obtain ⟨a6, ha6, h⟩ := ob h
    refine r_getS (pc := 15) dX9_lineAt_15 fgX9_13 rfl g1 ha6 ?_
    refine r_iload_n (pc := 18) dX9_lineAt_18 rfl 2 rfl ?_
    obtain ⟨g7, h⟩ := gd h
    obtain ⟨g8, h⟩ := gd h
    refine r_aaload (pc := 19) dX9_lineAt_19 g7 (by decide) g8 ?_
    obtain ⟨a9, ha9, h⟩ := ob h
    refine r_ref0 ha9 ?_
    refine r_iload_n (pc := 20) dX9_lineAt_20 rfl 0 rfl ?_
    refine r_iconst (pc := 21) dX9_lineAt_21 kc_iconst_1 ?_
    refine r_isub (pc := 22) dX9_lineAt_22 ?_
    obtain ⟨g10, h⟩ := gd h
    obtain ⟨g11, h⟩ := gd h
    refine r_iaload (pc := 23) dX9_lineAt_23 g10 g11 ?_
    refine r_icmp_lt (pc := 24) (tgt := 38) dX9_lineAt_24 rfl (fun c => ?_) (fun c => ?_)
    · have h := it h c
      refine r_iconst (pc := 38) dX9_lineAt_38 kc_iconst_0 ?_
      refine r_istore (pc := 39) (L' := [(4, vI (0 : Int32)), (3, vI (I a2 (Int32.toNatClampNeg x1))), (0, vR (some t)), (1, vI x1), (2, vI x2)]) dX9_lineAt_39 (by decide) rfl ?_
      refine r_sub [2, 3, 4, 1, 0] rfl ?_
      exact wX9_lineAt_l41 _ _ _ _ _ h
    · have h := ie h c
      refine r_aload_n (pc := 27) dX9_lineAt_27 rfl 1 rfl ?_
      obtain ⟨a47, ha47, h⟩ := ob h
      refine r_getS (pc := 28) dX9_lineAt_28 fgX9_16 rfl g1 ha47 ?_
      refine r_iload_n (pc := 31) dX9_lineAt_31 rfl 2 rfl ?_
      obtain ⟨g48, h⟩ := gd h
      obtain ⟨g49, h⟩ := gd h
      refine r_aaload (pc := 32) dX9_lineAt_32 g48 (by decide) g49 ?_
      obtain ⟨a50, ha50, h⟩ := ob h
      refine r_ref0 ha50 ?_
      refine r_iload_n (pc := 33) dX9_lineAt_33 rfl 0 rfl ?_
      refine r_iconst (pc := 34) dX9_lineAt_34 kc_iconst_1 ?_
      refine r_isub (pc := 35) dX9_lineAt_35 ?_
      obtain ⟨g51, h⟩ := gd h
      obtain ⟨g52, h⟩ := gd h
      refine r_iaload (pc := 36) dX9_lineAt_36 g51 g52 ?_
      cases h
      exact r_iret dX9_lineAt_37
  · have h := it h c
    refine r_iconst (pc := 11) dX9_lineAt_11 kc_iconst_0 ?_
    cases h
    exact r_iret dX9_lineAt_12
abbrev WX9_valueAt (G : Gx) (l : Launch) (σ0 : Shp) (X1 : Stt) (rv : Option SV) : Stt → Nat → List (Nat × SV) → List SV → Prop := Wm G l yX9_valueAt cX9_valueAt 3 (some .int) (fun _ => True) (rmx 9 207 σ0 X1.1) σ0 (Qmx G σ0 X1 rv)
def fX9_valueAt (σ : Shp) (I : Nat → Nat → Int32) (R : Nat → Nat → Option Nat) (t : Nat) (x1 : Int32) (x2 : Int32) : Option ((Nat → Nat → Int32) × (Int32)) :=
  if kdx σ t = 10 then
  ((R t 5) : Option Nat).bind fun a2 =>
  if kdx σ a2 = 24 then
  if ¬ (x1 < 0 ∨ lnx σ a2 ≤ Int32.toNatClampNeg x1) then
  if (I a2 (Int32.toNatClampNeg x1)) = 0 then
    (fX9_layDown 8 σ I R t x1 (0 : Int32)).bind fun I10 =>
    ((R t 4) : Option Nat).bind fun a12 =>
    if kdx σ a12 = 20 then
    if ¬ (x1 < 0 ∨ lnx σ a12 ≤ Int32.toNatClampNeg x1) then
    (fX9_lineAt σ I10 R t x1 x2).bind fun r15 =>
    some (I10, ((I10 a12 (Int32.toNatClampNeg x1)) + r15))
    else none
    else none
  else
    ((R t 4) : Option Nat).bind fun a5 =>
    if kdx σ a5 = 20 then
    if ¬ (x1 < 0 ∨ lnx σ a5 ≤ Int32.toNatClampNeg x1) then
    (fX9_lineAt σ I R t x1 x2).bind fun r8 =>
    some (I, ((I a5 (Int32.toNatClampNeg x1)) + r8))
    else none
    else none
  else none
  else none
  else none
theorem kX9_valueAt {G : Gx} {l : Launch} {σ : Shp} {I : Nat → Nat → Int32} {J : Nat → Nat → Int64} {D : Nat → Nat → UInt64} {R : Nat → Nat → Option Nat} {t : Nat} {x1 : Int32} {x2 : Int32} {I9 : Nat → Nat → Int32} {r9 : Int32} (h : fX9_valueAt σ I R t x1 x2 = some (I9, r9)) : Con G l yX9_valueAt cX9_valueAt 3 (some .int) 9 207 [vR (some t), vI x1, vI x2] (σ, I, J, D, R) (σ, I9, J, D, R) (some (vI r9)) := by
  unfold fX9_valueAt at h
  refine Con.mk (by decide +kernel) rfl (Nat.le_of_ble_eq_true rfl) ?_
  show WX9_valueAt G l σ (σ, I9, J, D, R) (some (vI r9)) (σ, I, J, D, R) 0 _ []
  refine r_aload_n (pc := 0) dX9_valueAt_0 rfl 0 rfl ?_
  obtain ⟨g1, h⟩ := gd h
  obtain ⟨a2, ha2, h⟩ := ob h
  refine r_getS (pc := 1) dX9_valueAt_1 fgX9_29 rfl g1 ha2 ?_
  refine r_iload_n (pc := 4) dX9_valueAt_4 rfl 1 rfl ?_
  obtain ⟨g3, h⟩ := gd h
  obtain ⟨g4, h⟩ := gd h
  refine r_zaload (pc := 5) dX9_valueAt_5 g3 g4 ?_
  refine r_ifne (pc := 6) (tgt := 15) dX9_valueAt_6 rfl (fun c => ?_) (fun c => ?_)
  · have h := ie h c
    refine r_aload_n (pc := 15) dX9_valueAt_15 rfl 0 rfl ?_
    obtain ⟨a5, ha5, h⟩ := ob h
    refine r_getS (pc := 16) dX9_valueAt_16 fgX9_26 rfl g1 ha5 ?_
    refine r_iload_n (pc := 19) dX9_valueAt_19 rfl 1 rfl ?_
    obtain ⟨g6, h⟩ := gd h
    obtain ⟨g7, h⟩ := gd h
    refine r_iaload (pc := 20) dX9_valueAt_20 g6 g7 ?_
    refine r_aload_n (pc := 21) dX9_valueAt_21 rfl 0 rfl ?_
    refine r_iload_n (pc := 22) dX9_valueAt_22 rfl 1 rfl ?_
    refine r_iload_n (pc := 23) dX9_valueAt_23 rfl 2 rfl ?_
    obtain ⟨r8, hc9, h⟩ := ob h
    refine r_callV1 (pc := 24) (av := [vI x1, vI x2]) (S := [vI (I a5 (Int32.toNatClampNeg x1))]) dX9_valueAt_24 (kX9_lineAt hc9) g1 rfl mkX9_49 mwX9_lineAt rfl ⟨Nat.le_of_ble_eq_true rfl, Nat.le_of_ble_eq_true rfl⟩ (Nat.le_of_ble_eq_true rfl) ⟨Nat.le_refl _, Nat.le_refl _⟩ (fun b => b) ?_
    refine r_iadd (pc := 27) dX9_valueAt_27 ?_
    cases h
    exact r_iret dX9_valueAt_28
  · have h := it h c
    refine r_aload_n (pc := 9) dX9_valueAt_9 rfl 0 rfl ?_
    refine r_iload_n (pc := 10) dX9_valueAt_10 rfl 1 rfl ?_
    refine r_iconst (pc := 11) dX9_valueAt_11 kc_iconst_0 ?_
    obtain ⟨I10, hc11, h⟩ := ob h
    refine r_callV0 (pc := 12) (av := [vI x1, vI (0 : Int32)]) (S := []) dX9_valueAt_12 (kX9_layDown _ hc11) g1 rfl mkX9_45 mwX9_layDown rfl ⟨Nat.le_of_ble_eq_true rfl, Nat.le_of_ble_eq_true rfl⟩ (Nat.le_of_ble_eq_true rfl) ⟨Nat.le_refl _, Nat.le_refl _⟩ (fun b => b) ?_
    refine r_aload_n (pc := 15) dX9_valueAt_15 rfl 0 rfl ?_
    obtain ⟨a12, ha12, h⟩ := ob h
    refine r_getS (pc := 16) dX9_valueAt_16 fgX9_26 rfl g1 ha12 ?_
    refine r_iload_n (pc := 19) dX9_valueAt_19 rfl 1 rfl ?_
    obtain ⟨g13, h⟩ := gd h
    obtain ⟨g14, h⟩ := gd h
    refine r_iaload (pc := 20) dX9_valueAt_20 g13 g14 ?_
    refine r_aload_n (pc := 21) dX9_valueAt_21 rfl 0 rfl ?_
    refine r_iload_n (pc := 22) dX9_valueAt_22 rfl 1 rfl ?_
    refine r_iload_n (pc := 23) dX9_valueAt_23 rfl 2 rfl ?_
    obtain ⟨r15, hc16, h⟩ := ob h
    refine r_callV1 (pc := 24) (av := [vI x1, vI x2]) (S := [vI (I10 a12 (Int32.toNatClampNeg x1))]) dX9_valueAt_24 (kX9_lineAt hc16) g1 rfl mkX9_49 mwX9_lineAt rfl ⟨Nat.le_of_ble_eq_true rfl, Nat.le_of_ble_eq_true rfl⟩ (Nat.le_of_ble_eq_true rfl) ⟨Nat.le_refl _, Nat.le_refl _⟩ (fun b => b) ?_
    refine r_iadd (pc := 27) dX9_valueAt_27 ?_
    cases h
    exact r_iret dX9_valueAt_28
abbrev WXM_maxI (G : Gx) (l : Launch) (σ0 : Shp) (X1 : Stt) (rv : Option SV) : Stt → Nat → List (Nat × SV) → List SV → Prop := Wm G l yXM_maxI cXM_maxI 2 (some .int) (fun _ => True) (rmx 0 0 σ0 X1.1) σ0 (Qmx G σ0 X1 rv)
def fXM_maxI  (x0 : Int32) (x1 : Int32) : (Int32) :=
  if x0 < x1 then
    x1
  else
    x0
theorem kXM_maxI {G : Gx} {l : Launch} {σ : Shp} {I : Nat → Nat → Int32} {J : Nat → Nat → Int64} {D : Nat → Nat → UInt64} {R : Nat → Nat → Option Nat} {x0 : Int32} {x1 : Int32} {r9 : Int32} (h : fXM_maxI x0 x1 = r9) : Con G l yXM_maxI cXM_maxI 2 (some .int) 0 0 [vI x0, vI x1] (σ, I, J, D, R) (σ, I, J, D, R) (some (vI r9)) := by
  unfold fXM_maxI at h
  refine Con.mkF (by decide +kernel) rfl (Nat.le_of_ble_eq_true rfl) ?_
  show WXM_maxI G l σ (σ, I, J, D, R) (some (vI r9)) (σ, I, J, D, R) 0 _ []
  refine r_iload_n (pc := 0) dXM_maxI_0 rfl 0 rfl ?_
  refine r_iload_n (pc := 1) dXM_maxI_1 rfl 1 rfl ?_
  refine r_icmp_lt (pc := 2) (tgt := 9) dXM_maxI_2 rfl (fun c => ?_) (fun c => ?_)
  · have h := it h c
    refine r_iload_n (pc := 9) dXM_maxI_9 rfl 1 rfl ?_
    subst h
    exact r_iret dXM_maxI_10
  · have h := ie h c
    refine r_iload_n (pc := 5) dXM_maxI_5 rfl 0 rfl ?_
    refine r_goto (pc := 6) (tgt := 10) dXM_maxI_6 rfl ?_
    subst h
    exact r_iret dXM_maxI_10
abbrev WX4_mostVapour (G : Gx) (l : Launch) (σ0 : Shp) (X1 : Stt) (rv : Option SV) : Stt → Nat → List (Nat × SV) → List SV → Prop := Wm G l yX4_mostVapour cX4_mostVapour 3 (some .long) (fun _ => True) (rmx 10 229 σ0 X1.1) σ0 (Qmx G σ0 X1 rv)
def fX4_mostVapour (σ : Shp) (I : Nat → Nat → Int32) (R : Nat → Nat → Option Nat) (t : Nat) (x1 : Int64) : Option ((Nat → Nat → Int32) × (Int64)) :=
  if kdx σ t = 5 then
  ((R t 0) : Option Nat).bind fun a2 =>
  if kdx σ a2 = 10 then
  (fX9_hasLines σ I R a2 (0 : Int32)).bind fun r4 =>
  if r4 = 0 then
    some (I, (9000 : Int64))
  else
    (fX9_valueAt σ I R a2 (0 : Int32) (Int64.toInt32 (x1 / (1000 : Int64)))).bind fun (I6, r7) =>
    some (I6, (Int32.toInt64 (fXM_maxI (0 : Int32) r7)))
  else none
  else none
theorem kX4_mostVapour {G : Gx} {l : Launch} {σ : Shp} {I : Nat → Nat → Int32} {J : Nat → Nat → Int64} {D : Nat → Nat → UInt64} {R : Nat → Nat → Option Nat} {t : Nat} {x1 : Int64} {I9 : Nat → Nat → Int32} {r9 : Int64} (h : fX4_mostVapour σ I R t x1 = some (I9, r9)) : Con G l yX4_mostVapour cX4_mostVapour 3 (some .long) 10 229 [vR (some t), vL x1] (σ, I, J, D, R) (σ, I9, J, D, R) (some (vL r9)) := by
  unfold fX4_mostVapour at h
  refine Con.mk (by decide +kernel) rfl (Nat.le_of_ble_eq_true rfl) ?_
  show WX4_mostVapour G l σ (σ, I9, J, D, R) (some (vL r9)) (σ, I, J, D, R) 0 _ []
  refine r_aload_n (pc := 0) dX4_mostVapour_0 rfl 0 rfl ?_
  obtain ⟨g1, h⟩ := gd h
  obtain ⟨a2, ha2, h⟩ := ob h
  refine r_getS (pc := 1) dX4_mostVapour_1 fgX4_12 rfl g1 ha2 ?_
  refine r_iconst (pc := 4) dX4_mostVapour_4 kc_iconst_0 ?_
  obtain ⟨g3, h⟩ := gd h
  obtain ⟨r4, hc5, h⟩ := ob h
  refine r_callV1 (pc := 5) (av := [vI (0 : Int32)]) (S := []) dX4_mostVapour_5 (kX9_hasLines hc5) g3 rfl mkX4_211 mwX9_hasLines rfl ⟨Nat.le_of_ble_eq_true rfl, Nat.le_of_ble_eq_true rfl⟩ (Nat.le_of_ble_eq_true rfl) ⟨Nat.le_refl _, Nat.le_refl _⟩ (fun b => b) ?_
  refine r_ifne (pc := 8) (tgt := 15) dX4_mostVapour_8 rfl (fun c => ?_) (fun c => ?_)
  · have h := ie h c
    refine r_iconst (pc := 15) dX4_mostVapour_15 kc_iconst_0 ?_
    refine r_aload_n (pc := 16) dX4_mostVapour_16 rfl 0 rfl ?_
    refine r_getS (pc := 17) dX4_mostVapour_17 fgX4_12 rfl g1 ha2 ?_
    refine r_iconst (pc := 20) dX4_mostVapour_20 kc_iconst_0 ?_
    refine r_lload_n (pc := 21) dX4_mostVapour_21 rfl 1 rfl ?_
    refine r_ldc2 (pc := 22) dX4_mostVapour_22 clX4_216 ?_
    refine r_ldiv (pc := 25) dX4_mostVapour_25 (by decide) ?_
    refine r_l2i (pc := 26) dX4_mostVapour_26 ?_
    obtain ⟨⟨I6, r7⟩, hc8, h⟩ := ob h
    refine r_callV1 (pc := 27) (av := [vI (0 : Int32), vI (Int64.toInt32 (x1 / (1000 : Int64)))]) (S := [vI (0 : Int32)]) dX4_mostVapour_27 (kX9_valueAt hc8) g3 rfl mkX4_218 mwX9_valueAt rfl ⟨Nat.le_of_ble_eq_true rfl, Nat.le_of_ble_eq_true rfl⟩ (Nat.le_of_ble_eq_true rfl) ⟨Nat.le_refl _, Nat.le_refl _⟩ (fun b => b) ?_
    refine r_callS1 (pc := 30) (av := [vI (0 : Int32), vI r7]) (S := []) dX4_mostVapour_30 (kXM_maxI rfl) mkX4_221 mwXM_maxI rfl ⟨Nat.le_of_ble_eq_true rfl, Nat.le_of_ble_eq_true rfl⟩ (Nat.le_of_ble_eq_true rfl) ⟨Nat.le_refl _, Nat.le_refl _⟩ (fun b => b) ?_
    refine r_i2l (pc := 33) dX4_mostVapour_33 ?_
    cases h
    exact r_lret dX4_mostVapour_34
  · have h := it h c
    refine r_ldc2 (pc := 11) dX4_mostVapour_11 clX4_214 ?_
    cases h
    exact r_lret dX4_mostVapour_14
abbrev WXM_maxJ (G : Gx) (l : Launch) (σ0 : Shp) (X1 : Stt) (rv : Option SV) : Stt → Nat → List (Nat × SV) → List SV → Prop := Wm G l yXM_maxJ cXM_maxJ 4 (some .long) (fun _ => True) (rmx 0 0 σ0 X1.1) σ0 (Qmx G σ0 X1 rv)
def fXM_maxJ  (x0 : Int64) (x2 : Int64) : (Int64) :=
  if x0 < x2 then
    x2
  else
    x0
theorem kXM_maxJ {G : Gx} {l : Launch} {σ : Shp} {I : Nat → Nat → Int32} {J : Nat → Nat → Int64} {D : Nat → Nat → UInt64} {R : Nat → Nat → Option Nat} {x0 : Int64} {x2 : Int64} {r9 : Int64} (h : fXM_maxJ x0 x2 = r9) : Con G l yXM_maxJ cXM_maxJ 4 (some .long) 0 0 [vL x0, vL x2] (σ, I, J, D, R) (σ, I, J, D, R) (some (vL r9)) := by
  unfold fXM_maxJ at h
  refine Con.mkF (by decide +kernel) rfl (Nat.le_of_ble_eq_true rfl) ?_
  show WXM_maxJ G l σ (σ, I, J, D, R) (some (vL r9)) (σ, I, J, D, R) 0 _ []
  refine r_lload_n (pc := 0) dXM_maxJ_0 rfl 0 rfl ?_
  refine r_lload_n (pc := 1) dXM_maxJ_1 rfl 1 rfl ?_
  refine r_lcmp (pc := 2) dXM_maxJ_2 ?_
  refine r_if_lt (pc := 3) (tgt := 10) dXM_maxJ_3 rfl (fun c => ?_) (fun c => ?_)
  · have h := it h (lgc_lt.mp c)
    refine r_lload_n (pc := 10) dXM_maxJ_10 rfl 1 rfl ?_
    subst h
    exact r_lret dXM_maxJ_11
  · have h := ie h (fun q => c (lgc_lt.mpr q))
    refine r_lload_n (pc := 6) dXM_maxJ_6 rfl 0 rfl ?_
    refine r_goto (pc := 7) (tgt := 11) dXM_maxJ_7 rfl ?_
    subst h
    exact r_lret dXM_maxJ_11
abbrev WXM_minJ (G : Gx) (l : Launch) (σ0 : Shp) (X1 : Stt) (rv : Option SV) : Stt → Nat → List (Nat × SV) → List SV → Prop := Wm G l yXM_minJ cXM_minJ 4 (some .long) (fun _ => True) (rmx 0 0 σ0 X1.1) σ0 (Qmx G σ0 X1 rv)
def fXM_minJ  (x0 : Int64) (x2 : Int64) : (Int64) :=
  if x2 < x0 then
    x2
  else
    x0
theorem kXM_minJ {G : Gx} {l : Launch} {σ : Shp} {I : Nat → Nat → Int32} {J : Nat → Nat → Int64} {D : Nat → Nat → UInt64} {R : Nat → Nat → Option Nat} {x0 : Int64} {x2 : Int64} {r9 : Int64} (h : fXM_minJ x0 x2 = r9) : Con G l yXM_minJ cXM_minJ 4 (some .long) 0 0 [vL x0, vL x2] (σ, I, J, D, R) (σ, I, J, D, R) (some (vL r9)) := by
  unfold fXM_minJ at h
  refine Con.mkF (by decide +kernel) rfl (Nat.le_of_ble_eq_true rfl) ?_
  show WXM_minJ G l σ (σ, I, J, D, R) (some (vL r9)) (σ, I, J, D, R) 0 _ []
  refine r_lload_n (pc := 0) dXM_minJ_0 rfl 0 rfl ?_
  refine r_lload_n (pc := 1) dXM_minJ_1 rfl 1 rfl ?_
  refine r_lcmp (pc := 2) dXM_minJ_2 ?_
  refine r_ifgt (pc := 3) (tgt := 10) dXM_minJ_3 rfl (fun c => ?_) (fun c => ?_)
  · have h := it h (lgc_gt.mp c)
    refine r_lload_n (pc := 10) dXM_minJ_10 rfl 1 rfl ?_
    subst h
    exact r_lret dXM_minJ_11
  · have h := ie h (fun q => c (lgc_gt.mpr q))
    refine r_lload_n (pc := 6) dXM_minJ_6 rfl 0 rfl ?_
    refine r_goto (pc := 7) (tgt := 11) dXM_minJ_7 rfl ?_
    subst h
    exact r_lret dXM_minJ_11
abbrev WX4_changeAir (G : Gx) (l : Launch) (σ0 : Shp) (X1 : Stt) (rv : Option SV) : Stt → Nat → List (Nat × SV) → List SV → Prop := Wm G l yX4_changeAir cX4_changeAir 15 none (fun _ => True) (rmx 11 251 σ0 X1.1) σ0 (Qmx G σ0 X1 rv)
def fX4_changeAir_b162  (σ : Shp) (R : Nat → Nat → Option Nat) (t : Nat) (I : Nat → Nat → Int32) (J : Nat → Nat → Int64) (x2 : Option Nat) (x11 : Int64) : Option ((Nat → Nat → Int32) × (Nat → Nat → Int64)) :=
  (x2 : Option Nat).bind fun a30 =>
  if kdx σ a30 = 21 then
  if ¬ ((0 : Int32) < 0 ∨ lnx σ a30 ≤ Int32.toNatClampNeg (0 : Int32)) then
  if kdx σ t = 5 then
  (fX4_mostVapour σ I R t (J a30 (Int32.toNatClampNeg (0 : Int32)))).bind fun (I34, r35) =>
  if ¬ ((2 : Int32) < 0 ∨ lnx σ a30 ≤ Int32.toNatClampNeg (2 : Int32)) then
  let J38 := u2 J a30 (Int32.toNatClampNeg (2 : Int32)) ((J a30 (Int32.toNatClampNeg (2 : Int32))) + (fXM_maxJ (0 : Int64) (x11 - r35)))
  if ¬ ((1 : Int32) < 0 ∨ lnx σ a30 ≤ Int32.toNatClampNeg (1 : Int32)) then
  let J40 := u2 J38 a30 (Int32.toNatClampNeg (1 : Int32)) (fXM_minJ x11 r35)
  some (I34, J40)
  else none
  else none
  else none
  else none
  else none
theorem wX4_changeAir_b162 {G : Gx} {l : Launch} {σ : Shp} {I : Nat → Nat → Int32} {J : Nat → Nat → Int64} {D : Nat → Nat → UInt64} {R : Nat → Nat → Option Nat} {t : Nat} {I9 : Nat → Nat → Int32} {J9 : Nat → Nat → Int64} {x2 : Option Nat} {x11 : Int64} (h : fX4_changeAir_b162 σ R t I J x2 x11 = some (I9, J9)) : WX4_changeAir G l σ (σ, I9, J9, D, R) none (σ, I, J, D, R) 162 [(0, vR (some t)), (2, vR x2), (11, vL x11)] [] := by
  unfold fX4_changeAir_b162 at h
  refine r_aload_n (pc := 162) dX4_changeAir_162 rfl 0 rfl ?_
  refine r_aload_n (pc := 163) dX4_changeAir_163 rfl 1 rfl ?_
  refine r_iconst (pc := 164) dX4_changeAir_164 kc_iconst_0 ?_
  obtain ⟨a30, ha30, h⟩ := ob h
  refine r_ref1 ha30 ?_
  obtain ⟨g31, h⟩ := gd h
  obtain ⟨g32, h⟩ := gd h
  refine r_laload (pc := 165) dX4_changeAir_165 g31 g32 ?_
  obtain ⟨g33, h⟩ := gd h
  obtain ⟨⟨I34, r35⟩, hc36, h⟩ := ob h
  refine r_callV1 (pc := 166) (av := [vL (J a30 (Int32.toNatClampNeg (0 : Int32)))]) (S := []) dX4_changeAir_166 (kX4_mostVapour hc36) g33 rfl mkX4_208 mwX4_mostVapour rfl ⟨Nat.le_of_ble_eq_true rfl, Nat.le_of_ble_eq_true rfl⟩ (Nat.le_of_ble_eq_true rfl) ⟨Nat.le_refl _, Nat.le_refl _⟩ (fun b => b) ?_
  refine r_lstore (pc := 169) (L' := [(13, vL r35), (0, vR (some t)), (2, vR x2), (11, vL x11)]) dX4_changeAir_169 (by decide) rfl ?_
  refine r_aload_n (pc := 171) dX4_changeAir_171 rfl 2 rfl ?_
  refine r_ref0 ha30 ?_
  refine r_iconst (pc := 172) dX4_changeAir_172 kc_iconst_2 ?_
  refine r_dup2 (pc := 173) dX4_changeAir_173 rfl rfl ?_
  obtain ⟨g37, h⟩ := gd h
  refine r_laload (pc := 174) dX4_changeAir_174 g31 g37 ?_
  refine r_lconst (pc := 175) dX4_changeAir_175 kc_lconst_0 ?_
  refine r_lload (pc := 176) dX4_changeAir_176 3 rfl ?_
  refine r_lload (pc := 178) dX4_changeAir_178 0 rfl ?_
  refine r_lsub (pc := 180) dX4_changeAir_180 ?_
  refine r_callS1 (pc := 181) (av := [vL (0 : Int64), vL (x11 - r35)]) (S := [vL (J a30 (Int32.toNatClampNeg (2 : Int32))), vI (2 : Int32), vR (some a30)]) dX4_changeAir_181 (kXM_maxJ rfl) mkX4_142 mwXM_maxJ rfl ⟨Nat.le_of_ble_eq_true rfl, Nat.le_of_ble_eq_true rfl⟩ (Nat.le_of_ble_eq_true rfl) ⟨Nat.le_refl _, Nat.le_refl _⟩ (fun b => b) ?_
  refine r_ladd (pc := 184) dX4_changeAir_184 ?_
  refine r_lastore (pc := 185) dX4_changeAir_185 g31 g37 ?_
  refine r_aload_n (pc := 186) dX4_changeAir_186 rfl 2 rfl ?_
  refine r_ref0 ha30 ?_
  refine r_iconst (pc := 187) dX4_changeAir_187 kc_iconst_1 ?_
  refine r_lload (pc := 188) dX4_changeAir_188 3 rfl ?_
  refine r_lload (pc := 190) dX4_changeAir_190 0 rfl ?_
  refine r_callS1 (pc := 192) (av := [vL x11, vL r35]) (S := [vI (1 : Int32), vR (some a30)]) dX4_changeAir_192 (kXM_minJ rfl) mkX4_139 mwXM_minJ rfl ⟨Nat.le_of_ble_eq_true rfl, Nat.le_of_ble_eq_true rfl⟩ (Nat.le_of_ble_eq_true rfl) ⟨Nat.le_refl _, Nat.le_refl _⟩ (fun b => b) ?_
  obtain ⟨g39, h⟩ := gd h
  refine r_lastore (pc := 195) dX4_changeAir_195 g31 g39 ?_
  cases h
  exact r_vret dX4_changeAir_196
def fX4_changeAir (σ : Shp) (I : Nat → Nat → Int32) (J : Nat → Nat → Int64) (R : Nat → Nat → Option Nat) (t : Nat) (x1 : Int32) : Option ((Nat → Nat → Int32) × (Nat → Nat → Int64)) :=
  if kdx σ t = 5 then
  ((R t 8) : Option Nat).bind fun a2 =>
  if kdx σ a2 = 29 then
  if ¬ (x1 < 0 ∨ lnx σ a2 ≤ Int32.toNatClampNeg x1) then
  ((R a2 (Int32.toNatClampNeg x1)) : Option Nat).bind fun a5 =>
  ((R t 9) : Option Nat).bind fun a6 =>
  if kdx σ a6 = 20 then
  if ¬ ((0 : Int32) < 0 ∨ lnx σ a6 ≤ Int32.toNatClampNeg (0 : Int32)) then
  if kdx σ a5 = 21 then
  if ¬ ((4 : Int32) < 0 ∨ lnx σ a5 ≤ Int32.toNatClampNeg (4 : Int32)) then
  let v11 := ((Int32.toInt64 ((I a6 (Int32.toNatClampNeg (0 : Int32))) / (8 : Int32))) + ((5 : Int64) * (J a5 (Int32.toNatClampNeg (4 : Int32)))))
  if ¬ ((0 : Int32) < 0 ∨ lnx σ a5 ≤ Int32.toNatClampNeg (0 : Int32)) then
  if ¬ ((1 : Int32) < 0 ∨ lnx σ a6 ≤ Int32.toNatClampNeg (1 : Int32)) then
  if ¬ ((3 : Int32) < 0 ∨ lnx σ a5 ≤ Int32.toNatClampNeg (3 : Int32)) then
  let v15 := ((((J a5 (Int32.toNatClampNeg (0 : Int32))) - (Int32.toInt64 (I a6 (Int32.toNatClampNeg (1 : Int32))))) * ((2 : Int64) + (J a5 (Int32.toNatClampNeg (3 : Int32))))) / (200 : Int64))
  let J16 := u2 J a5 (Int32.toNatClampNeg (0 : Int32)) ((J a5 (Int32.toNatClampNeg (0 : Int32))) + (v11 - v15))
  if ¬ ((6 : Int32) < 0 ∨ lnx σ a5 ≤ Int32.toNatClampNeg (6 : Int32)) then
  let J18 := u2 J16 a5 (Int32.toNatClampNeg (6 : Int32)) ((J16 a5 (Int32.toNatClampNeg (6 : Int32))) + v11)
  if ¬ ((7 : Int32) < 0 ∨ lnx σ a5 ≤ Int32.toNatClampNeg (7 : Int32)) then
  let J20 := u2 J18 a5 (Int32.toNatClampNeg (7 : Int32)) ((J18 a5 (Int32.toNatClampNeg (7 : Int32))) + v15)
  let v21 := (Int32.toInt64 ((12 : Int32) + ((I a6 (Int32.toNatClampNeg (0 : Int32))) / (50 : Int32))))
  if ¬ ((1 : Int32) < 0 ∨ lnx σ a5 ≤ Int32.toNatClampNeg (1 : Int32)) then
  if ¬ ((2 : Int32) < 0 ∨ lnx σ a6 ≤ Int32.toNatClampNeg (2 : Int32)) then
  let v24 := ((((J20 a5 (Int32.toNatClampNeg (1 : Int32))) - (Int32.toInt64 (I a6 (Int32.toNatClampNeg (2 : Int32))))) * (J20 a5 (Int32.toNatClampNeg (3 : Int32)))) / (80 : Int64))
  let v25 := (((J20 a5 (Int32.toNatClampNeg (1 : Int32))) + v21) - v24)
  if ¬ ((8 : Int32) < 0 ∨ lnx σ a5 ≤ Int32.toNatClampNeg (8 : Int32)) then
  let J27 := u2 J20 a5 (Int32.toNatClampNeg (8 : Int32)) ((J20 a5 (Int32.toNatClampNeg (8 : Int32))) + v21)
  if ¬ ((9 : Int32) < 0 ∨ lnx σ a5 ≤ Int32.toNatClampNeg (9 : Int32)) then
  let J29 := u2 J27 a5 (Int32.toNatClampNeg (9 : Int32)) ((J27 a5 (Int32.toNatClampNeg (9 : Int32))) + v24)
  if (0 : Int64) ≤ v25 then
    fX4_changeAir_b162 σ R t I J29 (some a5) v25
  else
    if ¬ ((10 : Int32) < 0 ∨ lnx σ a5 ≤ Int32.toNatClampNeg (10 : Int32)) then
    let J42 := u2 J29 a5 (Int32.toNatClampNeg (10 : Int32)) ((J29 a5 (Int32.toNatClampNeg (10 : Int32))) - v25)
    fX4_changeAir_b162 σ R t I J42 (some a5) (0 : Int64)
    else none
  else none
  else none
  else none
  else none
  else none
  else none
  else none
  else none
  else none
  else none
  else none
  else none
  else none
  else none
  else none
  else none
theorem kX4_changeAir {G : Gx} {l : Launch} {σ : Shp} {I : Nat → Nat → Int32} {J : Nat → Nat → Int64} {D : Nat → Nat → UInt64} {R : Nat → Nat → Option Nat} {t : Nat} {x1 : Int32} {I9 : Nat → Nat → Int32} {J9 : Nat → Nat → Int64} (h : fX4_changeAir σ I J R t x1 = some (I9, J9)) : Con G l yX4_changeAir cX4_changeAir 15 none 11 251 [vR (some t), vI x1] (σ, I, J, D, R) (σ, I9, J9, D, R) none := by
  unfold fX4_changeAir at h
  refine Con.mk (by decide +kernel) rfl (Nat.le_of_ble_eq_true rfl) ?_
  show WX4_changeAir G l σ (σ, I9, J9, D, R) none (σ, I, J, D, R) 0 _ []
  refine r_aload_n (pc := 0) dX4_changeAir_0 rfl 0 rfl ?_
  obtain ⟨g1, h⟩ := gd h
  obtain ⟨a2, ha2, h⟩ := ob h
  refine r_getS (pc := 1) dX4_changeAir_1 fgX4_48 rfl g1 ha2 ?_
  refine r_iload_n (pc := 4) dX4_changeAir_4 rfl 1 rfl ?_
  obtain ⟨g3, h⟩ := gd h
  obtain ⟨g4, h⟩ := gd h
  refine r_aaload (pc := 5) dX4_changeAir_5 g3 (by decide) g4 ?_
  obtain ⟨a5, ha5, h⟩ := ob h
  refine r_ref0 ha5 ?_
  refine r_astore_n (pc := 6) (L' := [(2, vR (some a5)), (0, vR (some t)), (1, vI x1)]) dX4_changeAir_6 rfl (by decide) rfl ?_
  refine r_aload_n (pc := 7) dX4_changeAir_7 rfl 1 rfl ?_
  obtain ⟨a6, ha6, h⟩ := ob h
  refine r_getS (pc := 8) dX4_changeAir_8 fgX4_51 rfl g1 ha6 ?_
  refine r_iconst (pc := 11) dX4_changeAir_11 kc_iconst_0 ?_
  obtain ⟨g7, h⟩ := gd h
  obtain ⟨g8, h⟩ := gd h
  refine r_iaload (pc := 12) dX4_changeAir_12 g7 g8 ?_
  refine r_bipush (pc := 13) dX4_changeAir_13 kc_bipush_8 ?_
  refine r_idiv (pc := 15) dX4_changeAir_15 (by decide) ?_
  refine r_i2l (pc := 16) dX4_changeAir_16 ?_
  refine r_ldc2 (pc := 17) dX4_changeAir_17 clX4_200 ?_
  refine r_aload_n (pc := 20) dX4_changeAir_20 rfl 0 rfl ?_
  refine r_iconst (pc := 21) dX4_changeAir_21 kc_iconst_4 ?_
  obtain ⟨g9, h⟩ := gd h
  obtain ⟨g10, h⟩ := gd h
  refine r_laload (pc := 22) dX4_changeAir_22 g9 g10 ?_
  refine r_lmul (pc := 23) dX4_changeAir_23 ?_
  refine r_ladd (pc := 24) dX4_changeAir_24 ?_
  refine r_lstore_n (pc := 25) (L' := [(3, vL ((Int32.toInt64 ((I a6 (Int32.toNatClampNeg (0 : Int32))) / (8 : Int32))) + ((5 : Int64) * (J a5 (Int32.toNatClampNeg (4 : Int32)))))), (2, vR (some a5)), (0, vR (some t)), (1, vI x1)]) dX4_changeAir_25 rfl (by decide) rfl ?_
  refine r_aload_n (pc := 26) dX4_changeAir_26 rfl 1 rfl ?_
  refine r_iconst (pc := 27) dX4_changeAir_27 kc_iconst_0 ?_
  obtain ⟨g12, h⟩ := gd h
  refine r_laload (pc := 28) dX4_changeAir_28 g9 g12 ?_
  refine r_aload_n (pc := 29) dX4_changeAir_29 rfl 2 rfl ?_
  refine r_getS (pc := 30) dX4_changeAir_30 fgX4_51 rfl g1 ha6 ?_
  refine r_iconst (pc := 33) dX4_changeAir_33 kc_iconst_1 ?_
  obtain ⟨g13, h⟩ := gd h
  refine r_iaload (pc := 34) dX4_changeAir_34 g7 g13 ?_
  refine r_i2l (pc := 35) dX4_changeAir_35 ?_
  refine r_lsub (pc := 36) dX4_changeAir_36 ?_
  refine r_ldc2 (pc := 37) dX4_changeAir_37 clX4_202 ?_
  refine r_aload_n (pc := 40) dX4_changeAir_40 rfl 1 rfl ?_
  refine r_iconst (pc := 41) dX4_changeAir_41 kc_iconst_3 ?_
  obtain ⟨g14, h⟩ := gd h
  refine r_laload (pc := 42) dX4_changeAir_42 g9 g14 ?_
  refine r_ladd (pc := 43) dX4_changeAir_43 ?_
  refine r_lmul (pc := 44) dX4_changeAir_44 ?_
  refine r_ldc2 (pc := 45) dX4_changeAir_45 clX4_204 ?_
  refine r_ldiv (pc := 48) dX4_changeAir_48 (by decide) ?_
  refine r_lstore (pc := 49) (L' := [(5, vL ((((J a5 (Int32.toNatClampNeg (0 : Int32))) - (Int32.toInt64 (I a6 (Int32.toNatClampNeg (1 : Int32))))) * ((2 : Int64) + (J a5 (Int32.toNatClampNeg (3 : Int32))))) / (200 : Int64))), (3, vL ((Int32.toInt64 ((I a6 (Int32.toNatClampNeg (0 : Int32))) / (8 : Int32))) + ((5 : Int64) * (J a5 (Int32.toNatClampNeg (4 : Int32)))))), (2, vR (some a5)), (0, vR (some t)), (1, vI x1)]) dX4_changeAir_49 (by decide) rfl ?_
  refine r_aload_n (pc := 51) dX4_changeAir_51 rfl 2 rfl ?_
  refine r_iconst (pc := 52) dX4_changeAir_52 kc_iconst_0 ?_
  refine r_dup2 (pc := 53) dX4_changeAir_53 rfl rfl ?_
  refine r_laload (pc := 54) dX4_changeAir_54 g9 g12 ?_
  refine r_lload_n (pc := 55) dX4_changeAir_55 rfl 1 rfl ?_
  refine r_lload (pc := 56) dX4_changeAir_56 0 rfl ?_
  refine r_lsub (pc := 58) dX4_changeAir_58 ?_
  refine r_ladd (pc := 59) dX4_changeAir_59 ?_
  refine r_lastore (pc := 60) dX4_changeAir_60 g9 g12 ?_
  refine r_aload_n (pc := 61) dX4_changeAir_61 rfl 2 rfl ?_
  refine r_bipush (pc := 62) dX4_changeAir_62 kc_bipush_6 ?_
  refine r_dup2 (pc := 64) dX4_changeAir_64 rfl rfl ?_
  obtain ⟨g17, h⟩ := gd h
  refine r_laload (pc := 65) dX4_changeAir_65 g9 g17 ?_
  refine r_lload_n (pc := 66) dX4_changeAir_66 rfl 1 rfl ?_
  refine r_ladd (pc := 67) dX4_changeAir_67 ?_
  refine r_lastore (pc := 68) dX4_changeAir_68 g9 g17 ?_
  refine r_aload_n (pc := 69) dX4_changeAir_69 rfl 2 rfl ?_
  refine r_bipush (pc := 70) dX4_changeAir_70 kc_bipush_7 ?_
  refine r_dup2 (pc := 72) dX4_changeAir_72 rfl rfl ?_
  obtain ⟨g19, h⟩ := gd h
  refine r_laload (pc := 73) dX4_changeAir_73 g9 g19 ?_
  refine r_lload (pc := 74) dX4_changeAir_74 0 rfl ?_
  refine r_ladd (pc := 76) dX4_changeAir_76 ?_
  refine r_lastore (pc := 77) dX4_changeAir_77 g9 g19 ?_
  refine r_bipush (pc := 78) dX4_changeAir_78 kc_bipush_12 ?_
  refine r_aload_n (pc := 80) dX4_changeAir_80 rfl 3 rfl ?_
  refine r_getS (pc := 81) dX4_changeAir_81 fgX4_51 rfl g1 ha6 ?_
  refine r_iconst (pc := 84) dX4_changeAir_84 kc_iconst_0 ?_
  refine r_iaload (pc := 85) dX4_changeAir_85 g7 g8 ?_
  refine r_bipush (pc := 86) dX4_changeAir_86 kc_bipush_50 ?_
  refine r_idiv (pc := 88) dX4_changeAir_88 (by decide) ?_
  refine r_iadd (pc := 89) dX4_changeAir_89 ?_
  refine r_i2l (pc := 90) dX4_changeAir_90 ?_
  refine r_lstore (pc := 91) (L' := [(7, vL (Int32.toInt64 ((12 : Int32) + ((I a6 (Int32.toNatClampNeg (0 : Int32))) / (50 : Int32))))), (5, vL ((((J a5 (Int32.toNatClampNeg (0 : Int32))) - (Int32.toInt64 (I a6 (Int32.toNatClampNeg (1 : Int32))))) * ((2 : Int64) + (J a5 (Int32.toNatClampNeg (3 : Int32))))) / (200 : Int64))), (3, vL ((Int32.toInt64 ((I a6 (Int32.toNatClampNeg (0 : Int32))) / (8 : Int32))) + ((5 : Int64) * (J a5 (Int32.toNatClampNeg (4 : Int32)))))), (2, vR (some a5)), (0, vR (some t)), (1, vI x1)]) dX4_changeAir_91 (by decide) rfl ?_
  refine r_aload_n (pc := 93) dX4_changeAir_93 rfl 3 rfl ?_
  refine r_iconst (pc := 94) dX4_changeAir_94 kc_iconst_1 ?_
  obtain ⟨g22, h⟩ := gd h
  refine r_laload (pc := 95) dX4_changeAir_95 g9 g22 ?_
  refine r_aload_n (pc := 96) dX4_changeAir_96 rfl 4 rfl ?_
  refine r_getS (pc := 97) dX4_changeAir_97 fgX4_51 rfl g1 ha6 ?_
  refine r_iconst (pc := 100) dX4_changeAir_100 kc_iconst_2 ?_
  obtain ⟨g23, h⟩ := gd h
  refine r_iaload (pc := 101) dX4_changeAir_101 g7 g23 ?_
  refine r_i2l (pc := 102) dX4_changeAir_102 ?_
  refine r_lsub (pc := 103) dX4_changeAir_103 ?_
  refine r_aload_n (pc := 104) dX4_changeAir_104 rfl 3 rfl ?_
  refine r_iconst (pc := 105) dX4_changeAir_105 kc_iconst_3 ?_
  refine r_laload (pc := 106) dX4_changeAir_106 g9 g14 ?_
  refine r_lmul (pc := 107) dX4_changeAir_107 ?_
  refine r_ldc2 (pc := 108) dX4_changeAir_108 clX4_206 ?_
  refine r_ldiv (pc := 111) dX4_changeAir_111 (by decide) ?_
  refine r_lstore (pc := 112) (L' := [(9, vL (((((u2 (u2 (u2 J a5 (Int32.toNatClampNeg (0 : Int32)) ((J a5 (Int32.toNatClampNeg (0 : Int32))) + (((Int32.toInt64 ((I a6 (Int32.toNatClampNeg (0 : Int32))) / (8 : Int32))) + ((5 : Int64) * (J a5 (Int32.toNatClampNeg (4 : Int32))))) - ((((J a5 (Int32.toNatClampNeg (0 : Int32))) - (Int32.toInt64 (I a6 (Int32.toNatClampNeg (1 : Int32))))) * ((2 : Int64) + (J a5 (Int32.toNatClampNeg (3 : Int32))))) / (200 : Int64))))) a5 (Int32.toNatClampNeg (6 : Int32)) (((u2 J a5 (Int32.toNatClampNeg (0 : Int32)) ((J a5 (Int32.toNatClampNeg (0 : Int32))) + (((Int32.toInt64 ((I a6 (Int32.toNatClampNeg (0 : Int32))) / (8 : Int32))) + ((5 : Int64) * (J a5 (Int32.toNatClampNeg (4 : Int32))))) - ((((J a5 (Int32.toNatClampNeg (0 : Int32))) - (Int32.toInt64 (I a6 (Int32.toNatClampNeg (1 : Int32))))) * ((2 : Int64) + (J a5 (Int32.toNatClampNeg (3 : Int32))))) / (200 : Int64))))) a5 (Int32.toNatClampNeg (6 : Int32))) + ((Int32.toInt64 ((I a6 (Int32.toNatClampNeg (0 : Int32))) / (8 : Int32))) + ((5 : Int64) * (J a5 (Int32.toNatClampNeg (4 : Int32))))))) a5 (Int32.toNatClampNeg (7 : Int32)) (((u2 (u2 J a5 (Int32.toNatClampNeg (0 : Int32)) ((J a5 (Int32.toNatClampNeg (0 : Int32))) + (((Int32.toInt64 ((I a6 (Int32.toNatClampNeg (0 : Int32))) / (8 : Int32))) + ((5 : Int64) * (J a5 (Int32.toNatClampNeg (4 : Int32))))) - ((((J a5 (Int32.toNatClampNeg (0 : Int32))) - (Int32.toInt64 (I a6 (Int32.toNatClampNeg (1 : Int32))))) * ((2 : Int64) + (J a5 (Int32.toNatClampNeg (3 : Int32))))) / (200 : Int64))))) a5 (Int32.toNatClampNeg (6 : Int32)) (((u2 J a5 (Int32.toNatClampNeg (0 : Int32)) ((J a5 (Int32.toNatClampNeg (0 : Int32))) + (((Int32.toInt64 ((I a6 (Int32.toNatClampNeg (0 : Int32))) / (8 : Int32))) + ((5 : Int64) * (J a5 (Int32.toNatClampNeg (4 : Int32))))) - ((((J a5 (Int32.toNatClampNeg (0 : Int32))) - (Int32.toInt64 (I a6 (Int32.toNatClampNeg (1 : Int32))))) * ((2 : Int64) + (J a5 (Int32.toNatClampNeg (3 : Int32))))) / (200 : Int64))))) a5 (Int32.toNatClampNeg (6 : Int32))) + ((Int32.toInt64 ((I a6 (Int32.toNatClampNeg (0 : Int32))) / (8 : Int32))) + ((5 : Int64) * (J a5 (Int32.toNatClampNeg (4 : Int32))))))) a5 (Int32.toNatClampNeg (7 : Int32))) + ((((J a5 (Int32.toNatClampNeg (0 : Int32))) - (Int32.toInt64 (I a6 (Int32.toNatClampNeg (1 : Int32))))) * ((2 : Int64) + (J a5 (Int32.toNatClampNeg (3 : Int32))))) / (200 : Int64)))) a5 (Int32.toNatClampNeg (1 : Int32))) - (Int32.toInt64 (I a6 (Int32.toNatClampNeg (2 : Int32))))) * ((u2 (u2 (u2 J a5 (Int32.toNatClampNeg (0 : Int32)) ((J a5 (Int32.toNatClampNeg (0 : Int32))) + (((Int32.toInt64 ((I a6 (Int32.toNatClampNeg (0 : Int32))) / (8 : Int32))) + ((5 : Int64) * (J a5 (Int32.toNatClampNeg (4 : Int32))))) - ((((J a5 (Int32.toNatClampNeg (0 : Int32))) - (Int32.toInt64 (I a6 (Int32.toNatClampNeg (1 : Int32))))) * ((2 : Int64) + (J a5 (Int32.toNatClampNeg (3 : Int32))))) / (200 : Int64))))) a5 (Int32.toNatClampNeg (6 : Int32)) (((u2 J a5 (Int32.toNatClampNeg (0 : Int32)) ((J a5 (Int32.toNatClampNeg (0 : Int32))) + (((Int32.toInt64 ((I a6 (Int32.toNatClampNeg (0 : Int32))) / (8 : Int32))) + ((5 : Int64) * (J a5 (Int32.toNatClampNeg (4 : Int32))))) - ((((J a5 (Int32.toNatClampNeg (0 : Int32))) - (Int32.toInt64 (I a6 (Int32.toNatClampNeg (1 : Int32))))) * ((2 : Int64) + (J a5 (Int32.toNatClampNeg (3 : Int32))))) / (200 : Int64))))) a5 (Int32.toNatClampNeg (6 : Int32))) + ((Int32.toInt64 ((I a6 (Int32.toNatClampNeg (0 : Int32))) / (8 : Int32))) + ((5 : Int64) * (J a5 (Int32.toNatClampNeg (4 : Int32))))))) a5 (Int32.toNatClampNeg (7 : Int32)) (((u2 (u2 J a5 (Int32.toNatClampNeg (0 : Int32)) ((J a5 (Int32.toNatClampNeg (0 : Int32))) + (((Int32.toInt64 ((I a6 (Int32.toNatClampNeg (0 : Int32))) / (8 : Int32))) + ((5 : Int64) * (J a5 (Int32.toNatClampNeg (4 : Int32))))) - ((((J a5 (Int32.toNatClampNeg (0 : Int32))) - (Int32.toInt64 (I a6 (Int32.toNatClampNeg (1 : Int32))))) * ((2 : Int64) + (J a5 (Int32.toNatClampNeg (3 : Int32))))) / (200 : Int64))))) a5 (Int32.toNatClampNeg (6 : Int32)) (((u2 J a5 (Int32.toNatClampNeg (0 : Int32)) ((J a5 (Int32.toNatClampNeg (0 : Int32))) + (((Int32.toInt64 ((I a6 (Int32.toNatClampNeg (0 : Int32))) / (8 : Int32))) + ((5 : Int64) * (J a5 (Int32.toNatClampNeg (4 : Int32))))) - ((((J a5 (Int32.toNatClampNeg (0 : Int32))) - (Int32.toInt64 (I a6 (Int32.toNatClampNeg (1 : Int32))))) * ((2 : Int64) + (J a5 (Int32.toNatClampNeg (3 : Int32))))) / (200 : Int64))))) a5 (Int32.toNatClampNeg (6 : Int32))) + ((Int32.toInt64 ((I a6 (Int32.toNatClampNeg (0 : Int32))) / (8 : Int32))) + ((5 : Int64) * (J a5 (Int32.toNatClampNeg (4 : Int32))))))) a5 (Int32.toNatClampNeg (7 : Int32))) + ((((J a5 (Int32.toNatClampNeg (0 : Int32))) - (Int32.toInt64 (I a6 (Int32.toNatClampNeg (1 : Int32))))) * ((2 : Int64) + (J a5 (Int32.toNatClampNeg (3 : Int32))))) / (200 : Int64)))) a5 (Int32.toNatClampNeg (3 : Int32)))) / (80 : Int64))), (7, vL (Int32.toInt64 ((12 : Int32) + ((I a6 (Int32.toNatClampNeg (0 : Int32))) / (50 : Int32))))), (5, vL ((((J a5 (Int32.toNatClampNeg (0 : Int32))) - (Int32.toInt64 (I a6 (Int32.toNatClampNeg (1 : Int32))))) * ((2 : Int64) + (J a5 (Int32.toNatClampNeg (3 : Int32))))) / (200 : Int64))), (3, vL ((Int32.toInt64 ((I a6 (Int32.toNatClampNeg (0 : Int32))) / (8 : Int32))) + ((5 : Int64) * (J a5 (Int32.toNatClampNeg (4 : Int32)))))), (2, vR (some a5)), (0, vR (some t)), (1, vI x1)]) dX4_changeAir_112 (by decide) rfl ?_
  refine r_aload_n (pc := 114) dX4_changeAir_114 rfl 4 rfl ?_
  refine r_iconst (pc := 115) dX4_changeAir_115 kc_iconst_1 ?_
  refine r_laload (pc := 116) dX4_changeAir_116 g9 g22 ?_
  refine r_lload (pc := 117) dX4_changeAir_117 1 rfl ?_
  refine r_ladd (pc := 119) dX4_changeAir_119 ?_
  refine r_lload (pc := 120) dX4_changeAir_120 0 rfl ?_
  refine r_lsub (pc := 122) dX4_changeAir_122 ?_
  refine r_lstore (pc := 123) (L' := [(11, vL ((((u2 (u2 (u2 J a5 (Int32.toNatClampNeg (0 : Int32)) ((J a5 (Int32.toNatClampNeg (0 : Int32))) + (((Int32.toInt64 ((I a6 (Int32.toNatClampNeg (0 : Int32))) / (8 : Int32))) + ((5 : Int64) * (J a5 (Int32.toNatClampNeg (4 : Int32))))) - ((((J a5 (Int32.toNatClampNeg (0 : Int32))) - (Int32.toInt64 (I a6 (Int32.toNatClampNeg (1 : Int32))))) * ((2 : Int64) + (J a5 (Int32.toNatClampNeg (3 : Int32))))) / (200 : Int64))))) a5 (Int32.toNatClampNeg (6 : Int32)) (((u2 J a5 (Int32.toNatClampNeg (0 : Int32)) ((J a5 (Int32.toNatClampNeg (0 : Int32))) + (((Int32.toInt64 ((I a6 (Int32.toNatClampNeg (0 : Int32))) / (8 : Int32))) + ((5 : Int64) * (J a5 (Int32.toNatClampNeg (4 : Int32))))) - ((((J a5 (Int32.toNatClampNeg (0 : Int32))) - (Int32.toInt64 (I a6 (Int32.toNatClampNeg (1 : Int32))))) * ((2 : Int64) + (J a5 (Int32.toNatClampNeg (3 : Int32))))) / (200 : Int64))))) a5 (Int32.toNatClampNeg (6 : Int32))) + ((Int32.toInt64 ((I a6 (Int32.toNatClampNeg (0 : Int32))) / (8 : Int32))) + ((5 : Int64) * (J a5 (Int32.toNatClampNeg (4 : Int32))))))) a5 (Int32.toNatClampNeg (7 : Int32)) (((u2 (u2 J a5 (Int32.toNatClampNeg (0 : Int32)) ((J a5 (Int32.toNatClampNeg (0 : Int32))) + (((Int32.toInt64 ((I a6 (Int32.toNatClampNeg (0 : Int32))) / (8 : Int32))) + ((5 : Int64) * (J a5 (Int32.toNatClampNeg (4 : Int32))))) - ((((J a5 (Int32.toNatClampNeg (0 : Int32))) - (Int32.toInt64 (I a6 (Int32.toNatClampNeg (1 : Int32))))) * ((2 : Int64) + (J a5 (Int32.toNatClampNeg (3 : Int32))))) / (200 : Int64))))) a5 (Int32.toNatClampNeg (6 : Int32)) (((u2 J a5 (Int32.toNatClampNeg (0 : Int32)) ((J a5 (Int32.toNatClampNeg (0 : Int32))) + (((Int32.toInt64 ((I a6 (Int32.toNatClampNeg (0 : Int32))) / (8 : Int32))) + ((5 : Int64) * (J a5 (Int32.toNatClampNeg (4 : Int32))))) - ((((J a5 (Int32.toNatClampNeg (0 : Int32))) - (Int32.toInt64 (I a6 (Int32.toNatClampNeg (1 : Int32))))) * ((2 : Int64) + (J a5 (Int32.toNatClampNeg (3 : Int32))))) / (200 : Int64))))) a5 (Int32.toNatClampNeg (6 : Int32))) + ((Int32.toInt64 ((I a6 (Int32.toNatClampNeg (0 : Int32))) / (8 : Int32))) + ((5 : Int64) * (J a5 (Int32.toNatClampNeg (4 : Int32))))))) a5 (Int32.toNatClampNeg (7 : Int32))) + ((((J a5 (Int32.toNatClampNeg (0 : Int32))) - (Int32.toInt64 (I a6 (Int32.toNatClampNeg (1 : Int32))))) * ((2 : Int64) + (J a5 (Int32.toNatClampNeg (3 : Int32))))) / (200 : Int64)))) a5 (Int32.toNatClampNeg (1 : Int32))) + (Int32.toInt64 ((12 : Int32) + ((I a6 (Int32.toNatClampNeg (0 : Int32))) / (50 : Int32))))) - (((((u2 (u2 (u2 J a5 (Int32.toNatClampNeg (0 : Int32)) ((J a5 (Int32.toNatClampNeg (0 : Int32))) + (((Int32.toInt64 ((I a6 (Int32.toNatClampNeg (0 : Int32))) / (8 : Int32))) + ((5 : Int64) * (J a5 (Int32.toNatClampNeg (4 : Int32))))) - ((((J a5 (Int32.toNatClampNeg (0 : Int32))) - (Int32.toInt64 (I a6 (Int32.toNatClampNeg (1 : Int32))))) * ((2 : Int64) + (J a5 (Int32.toNatClampNeg (3 : Int32))))) / (200 : Int64))))) a5 (Int32.toNatClampNeg (6 : Int32)) (((u2 J a5 (Int32.toNatClampNeg (0 : Int32)) ((J a5 (Int32.toNatClampNeg (0 : Int32))) + (((Int32.toInt64 ((I a6 (Int32.toNatClampNeg (0 : Int32))) / (8 : Int32))) + ((5 : Int64) * (J a5 (Int32.toNatClampNeg (4 : Int32))))) - ((((J a5 (Int32.toNatClampNeg (0 : Int32))) - (Int32.toInt64 (I a6 (Int32.toNatClampNeg (1 : Int32))))) * ((2 : Int64) + (J a5 (Int32.toNatClampNeg (3 : Int32))))) / (200 : Int64))))) a5 (Int32.toNatClampNeg (6 : Int32))) + ((Int32.toInt64 ((I a6 (Int32.toNatClampNeg (0 : Int32))) / (8 : Int32))) + ((5 : Int64) * (J a5 (Int32.toNatClampNeg (4 : Int32))))))) a5 (Int32.toNatClampNeg (7 : Int32)) (((u2 (u2 J a5 (Int32.toNatClampNeg (0 : Int32)) ((J a5 (Int32.toNatClampNeg (0 : Int32))) + (((Int32.toInt64 ((I a6 (Int32.toNatClampNeg (0 : Int32))) / (8 : Int32))) + ((5 : Int64) * (J a5 (Int32.toNatClampNeg (4 : Int32))))) - ((((J a5 (Int32.toNatClampNeg (0 : Int32))) - (Int32.toInt64 (I a6 (Int32.toNatClampNeg (1 : Int32))))) * ((2 : Int64) + (J a5 (Int32.toNatClampNeg (3 : Int32))))) / (200 : Int64))))) a5 (Int32.toNatClampNeg (6 : Int32)) (((u2 J a5 (Int32.toNatClampNeg (0 : Int32)) ((J a5 (Int32.toNatClampNeg (0 : Int32))) + (((Int32.toInt64 ((I a6 (Int32.toNatClampNeg (0 : Int32))) / (8 : Int32))) + ((5 : Int64) * (J a5 (Int32.toNatClampNeg (4 : Int32))))) - ((((J a5 (Int32.toNatClampNeg (0 : Int32))) - (Int32.toInt64 (I a6 (Int32.toNatClampNeg (1 : Int32))))) * ((2 : Int64) + (J a5 (Int32.toNatClampNeg (3 : Int32))))) / (200 : Int64))))) a5 (Int32.toNatClampNeg (6 : Int32))) + ((Int32.toInt64 ((I a6 (Int32.toNatClampNeg (0 : Int32))) / (8 : Int32))) + ((5 : Int64) * (J a5 (Int32.toNatClampNeg (4 : Int32))))))) a5 (Int32.toNatClampNeg (7 : Int32))) + ((((J a5 (Int32.toNatClampNeg (0 : Int32))) - (Int32.toInt64 (I a6 (Int32.toNatClampNeg (1 : Int32))))) * ((2 : Int64) + (J a5 (Int32.toNatClampNeg (3 : Int32))))) / (200 : Int64)))) a5 (Int32.toNatClampNeg (1 : Int32))) - (Int32.toInt64 (I a6 (Int32.toNatClampNeg (2 : Int32))))) * ((u2 (u2 (u2 J a5 (Int32.toNatClampNeg (0 : Int32)) ((J a5 (Int32.toNatClampNeg (0 : Int32))) + (((Int32.toInt64 ((I a6 (Int32.toNatClampNeg (0 : Int32))) / (8 : Int32))) + ((5 : Int64) * (J a5 (Int32.toNatClampNeg (4 : Int32))))) - ((((J a5 (Int32.toNatClampNeg (0 : Int32))) - (Int32.toInt64 (I a6 (Int32.toNatClampNeg (1 : Int32))))) * ((2 : Int64) + (J a5 (Int32.toNatClampNeg (3 : Int32))))) / (200 : Int64))))) a5 (Int32.toNatClampNeg (6 : Int32)) (((u2 J a5 (Int32.toNatClampNeg (0 : Int32)) ((J a5 (Int32.toNatClampNeg (0 : Int32))) + (((Int32.toInt64 ((I a6 (Int32.toNatClampNeg (0 : Int32))) / (8 : Int32))) + ((5 : Int64) * (J a5 (Int32.toNatClampNeg (4 : Int32))))) - ((((J a5 (Int32.toNatClampNeg (0 : Int32))) - (Int32.toInt64 (I a6 (Int32.toNatClampNeg (1 : Int32))))) * ((2 : Int64) + (J a5 (Int32.toNatClampNeg (3 : Int32))))) / (200 : Int64))))) a5 (Int32.toNatClampNeg (6 : Int32))) + ((Int32.toInt64 ((I a6 (Int32.toNatClampNeg (0 : Int32))) / (8 : Int32))) + ((5 : Int64) * (J a5 (Int32.toNatClampNeg (4 : Int32))))))) a5 (Int32.toNatClampNeg (7 : Int32)) (((u2 (u2 J a5 (Int32.toNatClampNeg (0 : Int32)) ((J a5 (Int32.toNatClampNeg (0 : Int32))) + (((Int32.toInt64 ((I a6 (Int32.toNatClampNeg (0 : Int32))) / (8 : Int32))) + ((5 : Int64) * (J a5 (Int32.toNatClampNeg (4 : Int32))))) - ((((J a5 (Int32.toNatClampNeg (0 : Int32))) - (Int32.toInt64 (I a6 (Int32.toNatClampNeg (1 : Int32))))) * ((2 : Int64) + (J a5 (Int32.toNatClampNeg (3 : Int32))))) / (200 : Int64))))) a5 (Int32.toNatClampNeg (6 : Int32)) (((u2 J a5 (Int32.toNatClampNeg (0 : Int32)) ((J a5 (Int32.toNatClampNeg (0 : Int32))) + (((Int32.toInt64 ((I a6 (Int32.toNatClampNeg (0 : Int32))) / (8 : Int32))) + ((5 : Int64) * (J a5 (Int32.toNatClampNeg (4 : Int32))))) - ((((J a5 (Int32.toNatClampNeg (0 : Int32))) - (Int32.toInt64 (I a6 (Int32.toNatClampNeg (1 : Int32))))) * ((2 : Int64) + (J a5 (Int32.toNatClampNeg (3 : Int32))))) / (200 : Int64))))) a5 (Int32.toNatClampNeg (6 : Int32))) + ((Int32.toInt64 ((I a6 (Int32.toNatClampNeg (0 : Int32))) / (8 : Int32))) + ((5 : Int64) * (J a5 (Int32.toNatClampNeg (4 : Int32))))))) a5 (Int32.toNatClampNeg (7 : Int32))) + ((((J a5 (Int32.toNatClampNeg (0 : Int32))) - (Int32.toInt64 (I a6 (Int32.toNatClampNeg (1 : Int32))))) * ((2 : Int64) + (J a5 (Int32.toNatClampNeg (3 : Int32))))) / (200 : Int64)))) a5 (Int32.toNatClampNeg (3 : Int32)))) / (80 : Int64)))), (9, vL (((((u2 (u2 (u2 J a5 (Int32.toNatClampNeg (0 : Int32)) ((J a5 (Int32.toNatClampNeg (0 : Int32))) + (((Int32.toInt64 ((I a6 (Int32.toNatClampNeg (0 : Int32))) / (8 : Int32))) + ((5 : Int64) * (J a5 (Int32.toNatClampNeg (4 : Int32))))) - ((((J a5 (Int32.toNatClampNeg (0 : Int32))) - (Int32.toInt64 (I a6 (Int32.toNatClampNeg (1 : Int32))))) * ((2 : Int64) + (J a5 (Int32.toNatClampNeg (3 : Int32))))) / (200 : Int64))))) a5 (Int32.toNatClampNeg (6 : Int32)) (((u2 J a5 (Int32.toNatClampNeg (0 : Int32)) ((J a5 (Int32.toNatClampNeg (0 : Int32))) + (((Int32.toInt64 ((I a6 (Int32.toNatClampNeg (0 : Int32))) / (8 : Int32))) + ((5 : Int64) * (J a5 (Int32.toNatClampNeg (4 : Int32))))) - ((((J a5 (Int32.toNatClampNeg (0 : Int32))) - (Int32.toInt64 (I a6 (Int32.toNatClampNeg (1 : Int32))))) * ((2 : Int64) + (J a5 (Int32.toNatClampNeg (3 : Int32))))) / (200 : Int64))))) a5 (Int32.toNatClampNeg (6 : Int32))) + ((Int32.toInt64 ((I a6 (Int32.toNatClampNeg (0 : Int32))) / (8 : Int32))) + ((5 : Int64) * (J a5 (Int32.toNatClampNeg (4 : Int32))))))) a5 (Int32.toNatClampNeg (7 : Int32)) (((u2 (u2 J a5 (Int32.toNatClampNeg (0 : Int32)) ((J a5 (Int32.toNatClampNeg (0 : Int32))) + (((Int32.toInt64 ((I a6 (Int32.toNatClampNeg (0 : Int32))) / (8 : Int32))) + ((5 : Int64) * (J a5 (Int32.toNatClampNeg (4 : Int32))))) - ((((J a5 (Int32.toNatClampNeg (0 : Int32))) - (Int32.toInt64 (I a6 (Int32.toNatClampNeg (1 : Int32))))) * ((2 : Int64) + (J a5 (Int32.toNatClampNeg (3 : Int32))))) / (200 : Int64))))) a5 (Int32.toNatClampNeg (6 : Int32)) (((u2 J a5 (Int32.toNatClampNeg (0 : Int32)) ((J a5 (Int32.toNatClampNeg (0 : Int32))) + (((Int32.toInt64 ((I a6 (Int32.toNatClampNeg (0 : Int32))) / (8 : Int32))) + ((5 : Int64) * (J a5 (Int32.toNatClampNeg (4 : Int32))))) - ((((J a5 (Int32.toNatClampNeg (0 : Int32))) - (Int32.toInt64 (I a6 (Int32.toNatClampNeg (1 : Int32))))) * ((2 : Int64) + (J a5 (Int32.toNatClampNeg (3 : Int32))))) / (200 : Int64))))) a5 (Int32.toNatClampNeg (6 : Int32))) + ((Int32.toInt64 ((I a6 (Int32.toNatClampNeg (0 : Int32))) / (8 : Int32))) + ((5 : Int64) * (J a5 (Int32.toNatClampNeg (4 : Int32))))))) a5 (Int32.toNatClampNeg (7 : Int32))) + ((((J a5 (Int32.toNatClampNeg (0 : Int32))) - (Int32.toInt64 (I a6 (Int32.toNatClampNeg (1 : Int32))))) * ((2 : Int64) + (J a5 (Int32.toNatClampNeg (3 : Int32))))) / (200 : Int64)))) a5 (Int32.toNatClampNeg (1 : Int32))) - (Int32.toInt64 (I a6 (Int32.toNatClampNeg (2 : Int32))))) * ((u2 (u2 (u2 J a5 (Int32.toNatClampNeg (0 : Int32)) ((J a5 (Int32.toNatClampNeg (0 : Int32))) + (((Int32.toInt64 ((I a6 (Int32.toNatClampNeg (0 : Int32))) / (8 : Int32))) + ((5 : Int64) * (J a5 (Int32.toNatClampNeg (4 : Int32))))) - ((((J a5 (Int32.toNatClampNeg (0 : Int32))) - (Int32.toInt64 (I a6 (Int32.toNatClampNeg (1 : Int32))))) * ((2 : Int64) + (J a5 (Int32.toNatClampNeg (3 : Int32))))) / (200 : Int64))))) a5 (Int32.toNatClampNeg (6 : Int32)) (((u2 J a5 (Int32.toNatClampNeg (0 : Int32)) ((J a5 (Int32.toNatClampNeg (0 : Int32))) + (((Int32.toInt64 ((I a6 (Int32.toNatClampNeg (0 : Int32))) / (8 : Int32))) + ((5 : Int64) * (J a5 (Int32.toNatClampNeg (4 : Int32))))) - ((((J a5 (Int32.toNatClampNeg (0 : Int32))) - (Int32.toInt64 (I a6 (Int32.toNatClampNeg (1 : Int32))))) * ((2 : Int64) + (J a5 (Int32.toNatClampNeg (3 : Int32))))) / (200 : Int64))))) a5 (Int32.toNatClampNeg (6 : Int32))) + ((Int32.toInt64 ((I a6 (Int32.toNatClampNeg (0 : Int32))) / (8 : Int32))) + ((5 : Int64) * (J a5 (Int32.toNatClampNeg (4 : Int32))))))) a5 (Int32.toNatClampNeg (7 : Int32)) (((u2 (u2 J a5 (Int32.toNatClampNeg (0 : Int32)) ((J a5 (Int32.toNatClampNeg (0 : Int32))) + (((Int32.toInt64 ((I a6 (Int32.toNatClampNeg (0 : Int32))) / (8 : Int32))) + ((5 : Int64) * (J a5 (Int32.toNatClampNeg (4 : Int32))))) - ((((J a5 (Int32.toNatClampNeg (0 : Int32))) - (Int32.toInt64 (I a6 (Int32.toNatClampNeg (1 : Int32))))) * ((2 : Int64) + (J a5 (Int32.toNatClampNeg (3 : Int32))))) / (200 : Int64))))) a5 (Int32.toNatClampNeg (6 : Int32)) (((u2 J a5 (Int32.toNatClampNeg (0 : Int32)) ((J a5 (Int32.toNatClampNeg (0 : Int32))) + (((Int32.toInt64 ((I a6 (Int32.toNatClampNeg (0 : Int32))) / (8 : Int32))) + ((5 : Int64) * (J a5 (Int32.toNatClampNeg (4 : Int32))))) - ((((J a5 (Int32.toNatClampNeg (0 : Int32))) - (Int32.toInt64 (I a6 (Int32.toNatClampNeg (1 : Int32))))) * ((2 : Int64) + (J a5 (Int32.toNatClampNeg (3 : Int32))))) / (200 : Int64))))) a5 (Int32.toNatClampNeg (6 : Int32))) + ((Int32.toInt64 ((I a6 (Int32.toNatClampNeg (0 : Int32))) / (8 : Int32))) + ((5 : Int64) * (J a5 (Int32.toNatClampNeg (4 : Int32))))))) a5 (Int32.toNatClampNeg (7 : Int32))) + ((((J a5 (Int32.toNatClampNeg (0 : Int32))) - (Int32.toInt64 (I a6 (Int32.toNatClampNeg (1 : Int32))))) * ((2 : Int64) + (J a5 (Int32.toNatClampNeg (3 : Int32))))) / (200 : Int64)))) a5 (Int32.toNatClampNeg (3 : Int32)))) / (80 : Int64))), (7, vL (Int32.toInt64 ((12 : Int32) + ((I a6 (Int32.toNatClampNeg (0 : Int32))) / (50 : Int32))))), (5, vL ((((J a5 (Int32.toNatClampNeg (0 : Int32))) - (Int32.toInt64 (I a6 (Int32.toNatClampNeg (1 : Int32))))) * ((2 : Int64) + (J a5 (Int32.toNatClampNeg (3 : Int32))))) / (200 : Int64))), (3, vL ((Int32.toInt64 ((I a6 (Int32.toNatClampNeg (0 : Int32))) / (8 : Int32))) + ((5 : Int64) * (J a5 (Int32.toNatClampNeg (4 : Int32)))))), (2, vR (some a5)), (0, vR (some t)), (1, vI x1)]) dX4_changeAir_123 (by decide) rfl ?_
  refine r_aload_n (pc := 125) dX4_changeAir_125 rfl 5 rfl ?_
  refine r_bipush (pc := 126) dX4_changeAir_126 kc_bipush_8 ?_
  refine r_dup2 (pc := 128) dX4_changeAir_128 rfl rfl ?_
  obtain ⟨g26, h⟩ := gd h
  refine r_laload (pc := 129) dX4_changeAir_129 g9 g26 ?_
  refine r_lload (pc := 130) dX4_changeAir_130 2 rfl ?_
  refine r_ladd (pc := 132) dX4_changeAir_132 ?_
  refine r_lastore (pc := 133) dX4_changeAir_133 g9 g26 ?_
  refine r_aload_n (pc := 134) dX4_changeAir_134 rfl 5 rfl ?_
  refine r_bipush (pc := 135) dX4_changeAir_135 kc_bipush_9 ?_
  refine r_dup2 (pc := 137) dX4_changeAir_137 rfl rfl ?_
  obtain ⟨g28, h⟩ := gd h
  refine r_laload (pc := 138) dX4_changeAir_138 g9 g28 ?_
  refine r_lload (pc := 139) dX4_changeAir_139 1 rfl ?_
  refine r_ladd (pc := 141) dX4_changeAir_141 ?_
  refine r_lastore (pc := 142) dX4_changeAir_142 g9 g28 ?_
  refine r_lload (pc := 143) dX4_changeAir_143 0 rfl ?_
  refine r_lconst (pc := 145) dX4_changeAir_145 kc_lconst_0 ?_
  refine r_lcmp (pc := 146) dX4_changeAir_146 ?_
  refine r_ifge (pc := 147) (tgt := 162) dX4_changeAir_147 rfl (fun c => ?_) (fun c => ?_)
  · have h := it h (lgc_ge.mp c)
    refine r_sub [6, 5, 0] rfl ?_
    exact wX4_changeAir_b162 h
  · have h := ie h (fun q => c (lgc_ge.mpr q))
    refine r_aload_n (pc := 150) dX4_changeAir_150 rfl 5 rfl ?_
    refine r_bipush (pc := 151) dX4_changeAir_151 kc_bipush_10 ?_
    refine r_dup2 (pc := 153) dX4_changeAir_153 rfl rfl ?_
    obtain ⟨g41, h⟩ := gd h
    refine r_laload (pc := 154) dX4_changeAir_154 g9 g41 ?_
    refine r_lload (pc := 155) dX4_changeAir_155 0 rfl ?_
    refine r_lsub (pc := 157) dX4_changeAir_157 ?_
    refine r_lastore (pc := 158) dX4_changeAir_158 g9 g41 ?_
    refine r_lconst (pc := 159) dX4_changeAir_159 kc_lconst_0 ?_
    refine r_lstore (pc := 160) (L' := [(11, vL (0 : Int64)), (9, vL (((((u2 (u2 (u2 J a5 (Int32.toNatClampNeg (0 : Int32)) ((J a5 (Int32.toNatClampNeg (0 : Int32))) + (((Int32.toInt64 ((I a6 (Int32.toNatClampNeg (0 : Int32))) / (8 : Int32))) + ((5 : Int64) * (J a5 (Int32.toNatClampNeg (4 : Int32))))) - ((((J a5 (Int32.toNatClampNeg (0 : Int32))) - (Int32.toInt64 (I a6 (Int32.toNatClampNeg (1 : Int32))))) * ((2 : Int64) + (J a5 (Int32.toNatClampNeg (3 : Int32))))) / (200 : Int64))))) a5 (Int32.toNatClampNeg (6 : Int32)) (((u2 J a5 (Int32.toNatClampNeg (0 : Int32)) ((J a5 (Int32.toNatClampNeg (0 : Int32))) + (((Int32.toInt64 ((I a6 (Int32.toNatClampNeg (0 : Int32))) / (8 : Int32))) + ((5 : Int64) * (J a5 (Int32.toNatClampNeg (4 : Int32))))) - ((((J a5 (Int32.toNatClampNeg (0 : Int32))) - (Int32.toInt64 (I a6 (Int32.toNatClampNeg (1 : Int32))))) * ((2 : Int64) + (J a5 (Int32.toNatClampNeg (3 : Int32))))) / (200 : Int64))))) a5 (Int32.toNatClampNeg (6 : Int32))) + ((Int32.toInt64 ((I a6 (Int32.toNatClampNeg (0 : Int32))) / (8 : Int32))) + ((5 : Int64) * (J a5 (Int32.toNatClampNeg (4 : Int32))))))) a5 (Int32.toNatClampNeg (7 : Int32)) (((u2 (u2 J a5 (Int32.toNatClampNeg (0 : Int32)) ((J a5 (Int32.toNatClampNeg (0 : Int32))) + (((Int32.toInt64 ((I a6 (Int32.toNatClampNeg (0 : Int32))) / (8 : Int32))) + ((5 : Int64) * (J a5 (Int32.toNatClampNeg (4 : Int32))))) - ((((J a5 (Int32.toNatClampNeg (0 : Int32))) - (Int32.toInt64 (I a6 (Int32.toNatClampNeg (1 : Int32))))) * ((2 : Int64) + (J a5 (Int32.toNatClampNeg (3 : Int32))))) / (200 : Int64))))) a5 (Int32.toNatClampNeg (6 : Int32)) (((u2 J a5 (Int32.toNatClampNeg (0 : Int32)) ((J a5 (Int32.toNatClampNeg (0 : Int32))) + (((Int32.toInt64 ((I a6 (Int32.toNatClampNeg (0 : Int32))) / (8 : Int32))) + ((5 : Int64) * (J a5 (Int32.toNatClampNeg (4 : Int32))))) - ((((J a5 (Int32.toNatClampNeg (0 : Int32))) - (Int32.toInt64 (I a6 (Int32.toNatClampNeg (1 : Int32))))) * ((2 : Int64) + (J a5 (Int32.toNatClampNeg (3 : Int32))))) / (200 : Int64))))) a5 (Int32.toNatClampNeg (6 : Int32))) + ((Int32.toInt64 ((I a6 (Int32.toNatClampNeg (0 : Int32))) / (8 : Int32))) + ((5 : Int64) * (J a5 (Int32.toNatClampNeg (4 : Int32))))))) a5 (Int32.toNatClampNeg (7 : Int32))) + ((((J a5 (Int32.toNatClampNeg (0 : Int32))) - (Int32.toInt64 (I a6 (Int32.toNatClampNeg (1 : Int32))))) * ((2 : Int64) + (J a5 (Int32.toNatClampNeg (3 : Int32))))) / (200 : Int64)))) a5 (Int32.toNatClampNeg (1 : Int32))) - (Int32.toInt64 (I a6 (Int32.toNatClampNeg (2 : Int32))))) * ((u2 (u2 (u2 J a5 (Int32.toNatClampNeg (0 : Int32)) ((J a5 (Int32.toNatClampNeg (0 : Int32))) + (((Int32.toInt64 ((I a6 (Int32.toNatClampNeg (0 : Int32))) / (8 : Int32))) + ((5 : Int64) * (J a5 (Int32.toNatClampNeg (4 : Int32))))) - ((((J a5 (Int32.toNatClampNeg (0 : Int32))) - (Int32.toInt64 (I a6 (Int32.toNatClampNeg (1 : Int32))))) * ((2 : Int64) + (J a5 (Int32.toNatClampNeg (3 : Int32))))) / (200 : Int64))))) a5 (Int32.toNatClampNeg (6 : Int32)) (((u2 J a5 (Int32.toNatClampNeg (0 : Int32)) ((J a5 (Int32.toNatClampNeg (0 : Int32))) + (((Int32.toInt64 ((I a6 (Int32.toNatClampNeg (0 : Int32))) / (8 : Int32))) + ((5 : Int64) * (J a5 (Int32.toNatClampNeg (4 : Int32))))) - ((((J a5 (Int32.toNatClampNeg (0 : Int32))) - (Int32.toInt64 (I a6 (Int32.toNatClampNeg (1 : Int32))))) * ((2 : Int64) + (J a5 (Int32.toNatClampNeg (3 : Int32))))) / (200 : Int64))))) a5 (Int32.toNatClampNeg (6 : Int32))) + ((Int32.toInt64 ((I a6 (Int32.toNatClampNeg (0 : Int32))) / (8 : Int32))) + ((5 : Int64) * (J a5 (Int32.toNatClampNeg (4 : Int32))))))) a5 (Int32.toNatClampNeg (7 : Int32)) (((u2 (u2 J a5 (Int32.toNatClampNeg (0 : Int32)) ((J a5 (Int32.toNatClampNeg (0 : Int32))) + (((Int32.toInt64 ((I a6 (Int32.toNatClampNeg (0 : Int32))) / (8 : Int32))) + ((5 : Int64) * (J a5 (Int32.toNatClampNeg (4 : Int32))))) - ((((J a5 (Int32.toNatClampNeg (0 : Int32))) - (Int32.toInt64 (I a6 (Int32.toNatClampNeg (1 : Int32))))) * ((2 : Int64) + (J a5 (Int32.toNatClampNeg (3 : Int32))))) / (200 : Int64))))) a5 (Int32.toNatClampNeg (6 : Int32)) (((u2 J a5 (Int32.toNatClampNeg (0 : Int32)) ((J a5 (Int32.toNatClampNeg (0 : Int32))) + (((Int32.toInt64 ((I a6 (Int32.toNatClampNeg (0 : Int32))) / (8 : Int32))) + ((5 : Int64) * (J a5 (Int32.toNatClampNeg (4 : Int32))))) - ((((J a5 (Int32.toNatClampNeg (0 : Int32))) - (Int32.toInt64 (I a6 (Int32.toNatClampNeg (1 : Int32))))) * ((2 : Int64) + (J a5 (Int32.toNatClampNeg (3 : Int32))))) / (200 : Int64))))) a5 (Int32.toNatClampNeg (6 : Int32))) + ((Int32.toInt64 ((I a6 (Int32.toNatClampNeg (0 : Int32))) / (8 : Int32))) + ((5 : Int64) * (J a5 (Int32.toNatClampNeg (4 : Int32))))))) a5 (Int32.toNatClampNeg (7 : Int32))) + ((((J a5 (Int32.toNatClampNeg (0 : Int32))) - (Int32.toInt64 (I a6 (Int32.toNatClampNeg (1 : Int32))))) * ((2 : Int64) + (J a5 (Int32.toNatClampNeg (3 : Int32))))) / (200 : Int64)))) a5 (Int32.toNatClampNeg (3 : Int32)))) / (80 : Int64))), (7, vL (Int32.toInt64 ((12 : Int32) + ((I a6 (Int32.toNatClampNeg (0 : Int32))) / (50 : Int32))))), (5, vL ((((J a5 (Int32.toNatClampNeg (0 : Int32))) - (Int32.toInt64 (I a6 (Int32.toNatClampNeg (1 : Int32))))) * ((2 : Int64) + (J a5 (Int32.toNatClampNeg (3 : Int32))))) / (200 : Int64))), (3, vL ((Int32.toInt64 ((I a6 (Int32.toNatClampNeg (0 : Int32))) / (8 : Int32))) + ((5 : Int64) * (J a5 (Int32.toNatClampNeg (4 : Int32)))))), (2, vR (some a5)), (0, vR (some t)), (1, vI x1)]) dX4_changeAir_160 (by decide) rfl ?_
    refine r_sub [6, 5, 0] rfl ?_
    exact wX4_changeAir_b162 h
abbrev WX4_hasWish (G : Gx) (l : Launch) (σ0 : Shp) (X1 : Stt) (rv : Option SV) : Stt → Nat → List (Nat × SV) → List SV → Prop := Wm G l yX4_hasWish cX4_hasWish 2 (some .boolean) (fun _ => True) (rmx 0 0 σ0 X1.1) σ0 (Qmx G σ0 X1 rv)
def fX4_hasWish (σ : Shp) (I : Nat → Nat → Int32) (R : Nat → Nat → Option Nat) (t : Nat) (x1 : Int32) : Option ((Int32)) :=
  if kdx σ t = 5 then
  ((R t 12) : Option Nat).bind fun a2 =>
  if kdx σ a2 = 20 then
  if ¬ (x1 < 0 ∨ lnx σ a2 ≤ Int32.toNatClampNeg x1) then
  if (I a2 (Int32.toNatClampNeg x1)) ≤ 0 then
    some (0 : Int32)
  else
    some (1 : Int32)
  else none
  else none
  else none
theorem kX4_hasWish {G : Gx} {l : Launch} {σ : Shp} {I : Nat → Nat → Int32} {J : Nat → Nat → Int64} {D : Nat → Nat → UInt64} {R : Nat → Nat → Option Nat} {t : Nat} {x1 : Int32} {r9 : Int32} (h : fX4_hasWish σ I R t x1 = some r9) : Con G l yX4_hasWish cX4_hasWish 2 (some .boolean) 0 0 [vR (some t), vI x1] (σ, I, J, D, R) (σ, I, J, D, R) (some (vI r9)) := by
  unfold fX4_hasWish at h
  refine Con.mk (by decide +kernel) rfl (Nat.le_of_ble_eq_true rfl) ?_
  show WX4_hasWish G l σ (σ, I, J, D, R) (some (vI r9)) (σ, I, J, D, R) 0 _ []
  refine r_aload_n (pc := 0) dX4_hasWish_0 rfl 0 rfl ?_
  obtain ⟨g1, h⟩ := gd h
  obtain ⟨a2, ha2, h⟩ := ob h
  refine r_getS (pc := 1) dX4_hasWish_1 fgX4_61 rfl g1 ha2 ?_
  refine r_iload_n (pc := 4) dX4_hasWish_4 rfl 1 rfl ?_
  obtain ⟨g3, h⟩ := gd h
  obtain ⟨g4, h⟩ := gd h
  refine r_iaload (pc := 5) dX4_hasWish_5 g3 g4 ?_
  refine r_if_le (pc := 6) (tgt := 13) dX4_hasWish_6 rfl (fun c => ?_) (fun c => ?_)
  · have h := it h c
    refine r_iconst (pc := 13) dX4_hasWish_13 kc_iconst_0 ?_
    cases h
    exact r_zret dX4_hasWish_14 (Or.inl rfl)
  · have h := ie h c
    refine r_iconst (pc := 9) dX4_hasWish_9 kc_iconst_1 ?_
    refine r_goto (pc := 10) (tgt := 14) dX4_hasWish_10 rfl ?_
    cases h
    exact r_zret dX4_hasWish_14 (Or.inr rfl)
abbrev WX4_moveBy (G : Gx) (l : Launch) (σ0 : Shp) (X1 : Stt) (rv : Option SV) : Stt → Nat → List (Nat × SV) → List SV → Prop := Wm G l yX4_moveBy cX4_moveBy 10 none (fun _ => True) (rmx 1 23 σ0 X1.1) σ0 (Qmx G σ0 X1 rv)
def fX4_moveBy_b24  (σ : Shp) (R : Nat → Nat → Option Nat) (t : Nat) (J : Nat → Nat → Int64) (x1 : Int32) (x2 : Int64) (x4 : Int32) (s0 : Int32) : Option ((Nat → Nat → Int64)) :=
  let v1 := (fXM_absJ x2)
  if kdx σ t = 5 then
  ((R t 8) : Option Nat).bind fun a3 =>
  if kdx σ a3 = 29 then
  if ¬ (x1 < 0 ∨ lnx σ a3 ≤ Int32.toNatClampNeg x1) then
  ((R a3 (Int32.toNatClampNeg x1)) : Option Nat).bind fun a6 =>
  if kdx σ a6 = 21 then
  if ¬ (x4 < 0 ∨ lnx σ a6 ≤ Int32.toNatClampNeg x4) then
  let v9 := (fXM_minJ v1 (J a6 (Int32.toNatClampNeg x4)))
  let J10 := u2 J a6 (Int32.toNatClampNeg x4) ((J a6 (Int32.toNatClampNeg x4)) - v9)
  if ¬ (s0 < 0 ∨ lnx σ a6 ≤ Int32.toNatClampNeg s0) then
  let J12 := u2 J10 a6 (Int32.toNatClampNeg s0) (fXM_minJ (100 : Int64) (((J10 a6 (Int32.toNatClampNeg s0)) + v1) - v9))
  some J12
  else none
  else none
  else none
  else none
  else none
  else none
theorem wX4_moveBy_b24 {G : Gx} {l : Launch} {σ : Shp} {I : Nat → Nat → Int32} {J : Nat → Nat → Int64} {D : Nat → Nat → UInt64} {R : Nat → Nat → Option Nat} {t : Nat} {J9 : Nat → Nat → Int64} {x1 : Int32} {x2 : Int64} {x4 : Int32} {s0 : Int32} (h : fX4_moveBy_b24 σ R t J x1 x2 x4 s0 = some J9) : WX4_moveBy G l σ (σ, I, J9, D, R) none (σ, I, J, D, R) 24 [(0, vR (some t)), (1, vI x1), (2, vL x2), (4, vI x4)] [vI s0] := by
  unfold fX4_moveBy_b24 at h
  refine r_istore (pc := 24) (L' := [(5, vI s0), (0, vR (some t)), (1, vI x1), (2, vL x2), (4, vI x4)]) dX4_moveBy_24 (by decide) rfl ?_
  refine r_lload_n (pc := 26) dX4_moveBy_26 rfl 3 rfl ?_
  refine r_callS1 (pc := 27) (av := [vL x2]) (S := []) dX4_moveBy_27 (kXM_absJ rfl) mkX4_194 mwXM_absJ rfl ⟨Nat.le_of_ble_eq_true rfl, Nat.le_of_ble_eq_true rfl⟩ (Nat.le_of_ble_eq_true rfl) ⟨Nat.le_refl _, Nat.le_refl _⟩ (fun b => b) ?_
  refine r_lstore (pc := 30) (L' := [(6, vL (fXM_absJ x2)), (5, vI s0), (0, vR (some t)), (1, vI x1), (2, vL x2), (4, vI x4)]) dX4_moveBy_30 (by decide) rfl ?_
  refine r_lload (pc := 32) dX4_moveBy_32 0 rfl ?_
  refine r_aload_n (pc := 34) dX4_moveBy_34 rfl 2 rfl ?_
  obtain ⟨g2, h⟩ := gd h
  obtain ⟨a3, ha3, h⟩ := ob h
  refine r_getS (pc := 35) dX4_moveBy_35 fgX4_48 rfl g2 ha3 ?_
  refine r_iload_n (pc := 38) dX4_moveBy_38 rfl 3 rfl ?_
  obtain ⟨g4, h⟩ := gd h
  obtain ⟨g5, h⟩ := gd h
  refine r_aaload (pc := 39) dX4_moveBy_39 g4 (by decide) g5 ?_
  obtain ⟨a6, ha6, h⟩ := ob h
  refine r_ref0 ha6 ?_
  refine r_iload (pc := 40) dX4_moveBy_40 5 rfl ?_
  obtain ⟨g7, h⟩ := gd h
  obtain ⟨g8, h⟩ := gd h
  refine r_laload (pc := 42) dX4_moveBy_42 g7 g8 ?_
  refine r_callS1 (pc := 43) (av := [vL (fXM_absJ x2), vL (J a6 (Int32.toNatClampNeg x4))]) (S := []) dX4_moveBy_43 (kXM_minJ rfl) mkX4_139 mwXM_minJ rfl ⟨Nat.le_of_ble_eq_true rfl, Nat.le_of_ble_eq_true rfl⟩ (Nat.le_of_ble_eq_true rfl) ⟨Nat.le_refl _, Nat.le_refl _⟩ (fun b => b) ?_
  refine r_lstore (pc := 46) (L' := [(8, vL (fXM_minJ (fXM_absJ x2) (J a6 (Int32.toNatClampNeg x4)))), (6, vL (fXM_absJ x2)), (5, vI s0), (0, vR (some t)), (1, vI x1), (2, vL x2), (4, vI x4)]) dX4_moveBy_46 (by decide) rfl ?_
  refine r_aload_n (pc := 48) dX4_moveBy_48 rfl 3 rfl ?_
  refine r_getS (pc := 49) dX4_moveBy_49 fgX4_48 rfl g2 ha3 ?_
  refine r_iload_n (pc := 52) dX4_moveBy_52 rfl 4 rfl ?_
  refine r_aaload (pc := 53) dX4_moveBy_53 g4 (by decide) g5 ?_
  refine r_ref0 ha6 ?_
  refine r_iload (pc := 54) dX4_moveBy_54 6 rfl ?_
  refine r_dup2 (pc := 56) dX4_moveBy_56 rfl rfl ?_
  refine r_laload (pc := 57) dX4_moveBy_57 g7 g8 ?_
  refine r_lload (pc := 58) dX4_moveBy_58 0 rfl ?_
  refine r_lsub (pc := 60) dX4_moveBy_60 ?_
  refine r_lastore (pc := 61) dX4_moveBy_61 g7 g8 ?_
  refine r_aload_n (pc := 62) dX4_moveBy_62 rfl 3 rfl ?_
  refine r_getS (pc := 63) dX4_moveBy_63 fgX4_48 rfl g2 ha3 ?_
  refine r_iload_n (pc := 66) dX4_moveBy_66 rfl 4 rfl ?_
  refine r_aaload (pc := 67) dX4_moveBy_67 g4 (by decide) g5 ?_
  refine r_ref0 ha6 ?_
  refine r_iload (pc := 68) dX4_moveBy_68 2 rfl ?_
  refine r_ldc2 (pc := 70) dX4_moveBy_70 clX4_198 ?_
  refine r_aload_n (pc := 73) dX4_moveBy_73 rfl 3 rfl ?_
  refine r_getS (pc := 74) dX4_moveBy_74 fgX4_48 rfl g2 ha3 ?_
  refine r_iload_n (pc := 77) dX4_moveBy_77 rfl 4 rfl ?_
  refine r_aaload (pc := 78) dX4_moveBy_78 g4 (by decide) g5 ?_
  refine r_ref0 ha6 ?_
  refine r_iload (pc := 79) dX4_moveBy_79 2 rfl ?_
  obtain ⟨g11, h⟩ := gd h
  refine r_laload (pc := 81) dX4_moveBy_81 g7 g11 ?_
  refine r_lload (pc := 82) dX4_moveBy_82 1 rfl ?_
  refine r_ladd (pc := 84) dX4_moveBy_84 ?_
  refine r_lload (pc := 85) dX4_moveBy_85 0 rfl ?_
  refine r_lsub (pc := 87) dX4_moveBy_87 ?_
  refine r_callS1 (pc := 88) (av := [vL (100 : Int64), vL ((((u2 J a6 (Int32.toNatClampNeg x4) ((J a6 (Int32.toNatClampNeg x4)) - (fXM_minJ (fXM_absJ x2) (J a6 (Int32.toNatClampNeg x4))))) a6 (Int32.toNatClampNeg s0)) + (fXM_absJ x2)) - (fXM_minJ (fXM_absJ x2) (J a6 (Int32.toNatClampNeg x4))))]) (S := [vI s0, vR (some a6)]) dX4_moveBy_88 (kXM_minJ rfl) mkX4_139 mwXM_minJ rfl ⟨Nat.le_of_ble_eq_true rfl, Nat.le_of_ble_eq_true rfl⟩ (Nat.le_of_ble_eq_true rfl) ⟨Nat.le_refl _, Nat.le_refl _⟩ (fun b => b) ?_
  refine r_lastore (pc := 91) dX4_moveBy_91 g7 g11 ?_
  cases h
  exact r_vret dX4_moveBy_92
def fX4_moveBy (σ : Shp) (J : Nat → Nat → Int64) (R : Nat → Nat → Option Nat) (t : Nat) (x1 : Int32) (x2 : Int64) : Option ((Nat → Nat → Int64)) :=
  if x2 ≤ (0 : Int64) then
    if x2 ≤ (0 : Int64) then
      fX4_moveBy_b24 σ R t J x1 x2 (3 : Int32) (4 : Int32)
    else
      fX4_moveBy_b24 σ R t J x1 x2 (3 : Int32) (3 : Int32)
  else
    if x2 ≤ (0 : Int64) then
      fX4_moveBy_b24 σ R t J x1 x2 (4 : Int32) (4 : Int32)
    else
      fX4_moveBy_b24 σ R t J x1 x2 (4 : Int32) (3 : Int32)
theorem kX4_moveBy {G : Gx} {l : Launch} {σ : Shp} {I : Nat → Nat → Int32} {J : Nat → Nat → Int64} {D : Nat → Nat → UInt64} {R : Nat → Nat → Option Nat} {t : Nat} {x1 : Int32} {x2 : Int64} {J9 : Nat → Nat → Int64} (h : fX4_moveBy σ J R t x1 x2 = some J9) : Con G l yX4_moveBy cX4_moveBy 10 none 1 23 [vR (some t), vI x1, vL x2] (σ, I, J, D, R) (σ, I, J9, D, R) none := by
  unfold fX4_moveBy at h
  refine Con.mk (by decide +kernel) rfl (Nat.le_of_ble_eq_true rfl) ?_
  show WX4_moveBy G l σ (σ, I, J9, D, R) none (σ, I, J, D, R) 0 _ []
  refine r_lload_n (pc := 0) dX4_moveBy_0 rfl 2 rfl ?_
  refine r_lconst (pc := 1) dX4_moveBy_1 kc_lconst_0 ?_
  refine r_lcmp (pc := 2) dX4_moveBy_2 ?_
  refine r_if_le (pc := 3) (tgt := 10) dX4_moveBy_3 rfl (fun c => ?_) (fun c => ?_)
  · have h := it h (lgc_le.mp c)
    refine r_iconst (pc := 10) dX4_moveBy_10 kc_iconst_3 ?_
    refine r_istore (pc := 11) (L' := [(4, vI (3 : Int32)), (0, vR (some t)), (1, vI x1), (2, vL x2)]) dX4_moveBy_11 (by decide) rfl ?_
    refine r_lload_n (pc := 13) dX4_moveBy_13 rfl 3 rfl ?_
    refine r_lconst (pc := 14) dX4_moveBy_14 kc_lconst_0 ?_
    refine r_lcmp (pc := 15) dX4_moveBy_15 ?_
    refine r_if_le (pc := 16) (tgt := 23) dX4_moveBy_16 rfl (fun c => ?_) (fun c => ?_)
    · have h := it h (lgc_le.mp c)
      refine r_iconst (pc := 23) dX4_moveBy_23 kc_iconst_4 ?_
      refine r_sub [1, 2, 3, 0] rfl ?_
      exact wX4_moveBy_b24 h
    · have h := ie h (fun q => c (lgc_le.mpr q))
      refine r_iconst (pc := 19) dX4_moveBy_19 kc_iconst_3 ?_
      refine r_goto (pc := 20) (tgt := 24) dX4_moveBy_20 rfl ?_
      refine r_sub [1, 2, 3, 0] rfl ?_
      exact wX4_moveBy_b24 h
  · have h := ie h (fun q => c (lgc_le.mpr q))
    refine r_iconst (pc := 6) dX4_moveBy_6 kc_iconst_4 ?_
    refine r_goto (pc := 7) (tgt := 11) dX4_moveBy_7 rfl ?_
    refine r_istore (pc := 11) (L' := [(4, vI (4 : Int32)), (0, vR (some t)), (1, vI x1), (2, vL x2)]) dX4_moveBy_11 (by decide) rfl ?_
    refine r_lload_n (pc := 13) dX4_moveBy_13 rfl 3 rfl ?_
    refine r_lconst (pc := 14) dX4_moveBy_14 kc_lconst_0 ?_
    refine r_lcmp (pc := 15) dX4_moveBy_15 ?_
    refine r_if_le (pc := 16) (tgt := 23) dX4_moveBy_16 rfl (fun c => ?_) (fun c => ?_)
    · have h := it h (lgc_le.mp c)
      refine r_iconst (pc := 23) dX4_moveBy_23 kc_iconst_4 ?_
      refine r_sub [1, 2, 3, 0] rfl ?_
      exact wX4_moveBy_b24 h
    · have h := ie h (fun q => c (lgc_le.mpr q))
      refine r_iconst (pc := 19) dX4_moveBy_19 kc_iconst_3 ?_
      refine r_goto (pc := 20) (tgt := 24) dX4_moveBy_20 rfl ?_
      refine r_sub [1, 2, 3, 0] rfl ?_
      exact wX4_moveBy_b24 h
abbrev WX4_bounded (G : Gx) (l : Launch) (σ0 : Shp) (X1 : Stt) (rv : Option SV) : Stt → Nat → List (Nat × SV) → List SV → Prop := Wm G l yX4_bounded cX4_bounded 6 (some .long) (fun _ => True) (rmx 1 23 σ0 X1.1) σ0 (Qmx G σ0 X1 rv)
def fX4_bounded  (x0 : Int64) (x2 : Int64) (x4 : Int64) : (Int64) :=
  (fXM_maxJ x2 (fXM_minJ x4 x0))
theorem kX4_bounded {G : Gx} {l : Launch} {σ : Shp} {I : Nat → Nat → Int32} {J : Nat → Nat → Int64} {D : Nat → Nat → UInt64} {R : Nat → Nat → Option Nat} {x0 : Int64} {x2 : Int64} {x4 : Int64} {r9 : Int64} (h : fX4_bounded x0 x2 x4 = r9) : Con G l yX4_bounded cX4_bounded 6 (some .long) 1 23 [vL x0, vL x2, vL x4] (σ, I, J, D, R) (σ, I, J, D, R) (some (vL r9)) := by
  unfold fX4_bounded at h
  refine Con.mk (by decide +kernel) rfl (Nat.le_of_ble_eq_true rfl) ?_
  show WX4_bounded G l σ (σ, I, J, D, R) (some (vL r9)) (σ, I, J, D, R) 0 _ []
  refine r_lload_n (pc := 0) dX4_bounded_0 rfl 1 rfl ?_
  refine r_lload (pc := 1) dX4_bounded_1 2 rfl ?_
  refine r_lload_n (pc := 3) dX4_bounded_3 rfl 0 rfl ?_
  refine r_callS1 (pc := 4) (av := [vL x4, vL x0]) (S := [vL x2]) dX4_bounded_4 (kXM_minJ rfl) mkX4_139 mwXM_minJ rfl ⟨Nat.le_of_ble_eq_true rfl, Nat.le_of_ble_eq_true rfl⟩ (Nat.le_of_ble_eq_true rfl) ⟨Nat.le_refl _, Nat.le_refl _⟩ (fun b => b) ?_
  refine r_callS1 (pc := 7) (av := [vL x2, vL (fXM_minJ x4 x0)]) (S := []) dX4_bounded_7 (kXM_maxJ rfl) mkX4_142 mwXM_maxJ rfl ⟨Nat.le_of_ble_eq_true rfl, Nat.le_of_ble_eq_true rfl⟩ (Nat.le_of_ble_eq_true rfl) ⟨Nat.le_refl _, Nat.le_refl _⟩ (fun b => b) ?_
  subst h
  exact r_lret dX4_bounded_10
abbrev WX4_towards (G : Gx) (l : Launch) (σ0 : Shp) (X1 : Stt) (rv : Option SV) : Stt → Nat → List (Nat × SV) → List SV → Prop := Wm G l yX4_towards cX4_towards 4 (some .long) (fun _ => True) (rmx 2 48 σ0 X1.1) σ0 (Qmx G σ0 X1 rv)
def fX4_towards  (x0 : Int64) (x2 : Int64) : (Int64) :=
  (x0 + (fX4_bounded (x2 - x0) (-10 : Int64) (10 : Int64)))
theorem kX4_towards {G : Gx} {l : Launch} {σ : Shp} {I : Nat → Nat → Int32} {J : Nat → Nat → Int64} {D : Nat → Nat → UInt64} {R : Nat → Nat → Option Nat} {x0 : Int64} {x2 : Int64} {r9 : Int64} (h : fX4_towards x0 x2 = r9) : Con G l yX4_towards cX4_towards 4 (some .long) 2 48 [vL x0, vL x2] (σ, I, J, D, R) (σ, I, J, D, R) (some (vL r9)) := by
  unfold fX4_towards at h
  refine Con.mk (by decide +kernel) rfl (Nat.le_of_ble_eq_true rfl) ?_
  show WX4_towards G l σ (σ, I, J, D, R) (some (vL r9)) (σ, I, J, D, R) 0 _ []
  refine r_lload_n (pc := 0) dX4_towards_0 rfl 0 rfl ?_
  refine r_lload_n (pc := 1) dX4_towards_1 rfl 1 rfl ?_
  refine r_lload_n (pc := 2) dX4_towards_2 rfl 0 rfl ?_
  refine r_lsub (pc := 3) dX4_towards_3 ?_
  refine r_ldc2 (pc := 4) dX4_towards_4 clX4_145 ?_
  refine r_ldc2 (pc := 7) dX4_towards_7 clX4_147 ?_
  refine r_callS1 (pc := 10) (av := [vL (x2 - x0), vL (-10 : Int64), vL (10 : Int64)]) (S := [vL x0]) dX4_towards_10 (kX4_bounded rfl) mkX4_149 mwX4_bounded rfl ⟨Nat.le_of_ble_eq_true rfl, Nat.le_of_ble_eq_true rfl⟩ (Nat.le_of_ble_eq_true rfl) ⟨Nat.le_refl _, Nat.le_refl _⟩ (fun b => b) ?_
  refine r_ladd (pc := 13) dX4_towards_13 ?_
  subst h
  exact r_lret dX4_towards_14
abbrev WX4_valueReal (G : Gx) (l : Launch) (σ0 : Shp) (X1 : Stt) (rv : Option SV) : Stt → Nat → List (Nat × SV) → List SV → Prop := Wm G l yX4_valueReal cX4_valueReal 3 (some .double) (fun _ => True) (rmx 0 0 σ0 X1.1) σ0 (Qmx G σ0 X1 rv)
def fX4_valueReal_l2  (σ : Shp) (J : Nat → Nat → Int64) (D : Nat → Nat → UInt64) (R : Nat → Nat → Option Nat) (t : Nat) : Nat → (Int32) → (Int32) → Option ((UInt64))
  | 0, _, _ => none
  | n + 1, x1, x2 =>
    if (9 : Int32) ≤ x2 then
      some (FP.dconst0)
    else
      if kdx σ t = 5 then
      ((R t 2) : Option Nat).bind fun a2 =>
      if kdx σ a2 = 21 then
      if ¬ (x2 < 0 ∨ lnx σ a2 ≤ Int32.toNatClampNeg x2) then
      ((R t 5) : Option Nat).bind fun a5 =>
      if kdx σ a5 = 21 then
      if ¬ (x1 < 0 ∨ lnx σ a5 ≤ Int32.toNatClampNeg x1) then
      if (J a2 (Int32.toNatClampNeg x2)) = (J a5 (Int32.toNatClampNeg x1)) then
        ((R t 3) : Option Nat).bind fun a9 =>
        if kdx σ a9 = 25 then
        if ¬ (x2 < 0 ∨ lnx σ a9 ≤ Int32.toNatClampNeg x2) then
        some (D a9 (Int32.toNatClampNeg x2))
        else none
        else none
      else
        let v8 := x2 + (3 : Int32)
        fX4_valueReal_l2 σ J D R t n x1 v8
      else none
      else none
      else none
      else none
      else none
theorem wX4_valueReal_l2 {G : Gx} {l : Launch} {σ : Shp} {I : Nat → Nat → Int32} {J : Nat → Nat → Int64} {D : Nat → Nat → UInt64} {R : Nat → Nat → Option Nat} {t : Nat} {r9 : UInt64} : ∀ (n : Nat) (x1 : Int32) (x2 : Int32), fX4_valueReal_l2 σ J D R t n x1 x2 = some r9 → WX4_valueReal G l σ (σ, I, J, D, R) (some (vD r9)) (σ, I, J, D, R) 2 [(0, vR (some t)), (1, vI x1), (2, vI x2)] [] := by
  intro n
  induction n with
  | zero =>
    intro x1 x2 h
    have h : none = some _ := h
    cases h
  | succ n ih =>
    intro x1 x2 h
    rw [fX4_valueReal_l2] at h
    refine r_iload_n (pc := 2) dX4_valueReal_2 rfl 2 rfl ?_
    refine r_bipush (pc := 3) dX4_valueReal_3 kc_bipush_9 ?_
    refine r_icmp_ge (pc := 5) (tgt := 37) dX4_valueReal_5 rfl (fun c => ?_) (fun c => ?_)
    · have h := it h c
      refine r_dconst0 (pc := 37) dX4_valueReal_37 ?_
      cases h
      exact r_dret dX4_valueReal_38
    · have h := ie h c
      refine r_aload_n (pc := 8) dX4_valueReal_8 rfl 0 rfl ?_
      obtain ⟨g1, h⟩ := gd h
      obtain ⟨a2, ha2, h⟩ := ob h
      refine r_getS (pc := 9) dX4_valueReal_9 fgX4_23 rfl g1 ha2 ?_
      refine r_iload_n (pc := 12) dX4_valueReal_12 rfl 2 rfl ?_
      obtain ⟨g3, h⟩ := gd h
      obtain ⟨g4, h⟩ := gd h
      refine r_laload (pc := 13) dX4_valueReal_13 g3 g4 ?_
      refine r_aload_n (pc := 14) dX4_valueReal_14 rfl 0 rfl ?_
      obtain ⟨a5, ha5, h⟩ := ob h
      refine r_getS (pc := 15) dX4_valueReal_15 fgX4_34 rfl g1 ha5 ?_
      refine r_iload_n (pc := 18) dX4_valueReal_18 rfl 1 rfl ?_
      obtain ⟨g6, h⟩ := gd h
      obtain ⟨g7, h⟩ := gd h
      refine r_laload (pc := 19) dX4_valueReal_19 g6 g7 ?_
      refine r_lcmp (pc := 20) dX4_valueReal_20 ?_
      refine r_ifne (pc := 21) (tgt := 31) dX4_valueReal_21 rfl (fun c => ?_) (fun c => ?_)
      · have h := ie h (fun q => c (lgc_eq.mpr q))
        refine r_iinc (pc := 31) (v := (x2 + (3 : Int32))) (L' := [(2, vI (x2 + (3 : Int32))), (0, vR (some t)), (1, vI x1)]) dX4_valueReal_31 2 rfl (kc_inc_3 _) (by decide) rfl ?_
        refine r_goto (pc := 34) (tgt := 2) dX4_valueReal_34 rfl ?_
        refine r_sub [1, 2, 0] rfl ?_
        exact ih _ _ h
      · have h := it h (lgc_eq.mp c)
        refine r_aload_n (pc := 24) dX4_valueReal_24 rfl 0 rfl ?_
        obtain ⟨a9, ha9, h⟩ := ob h
        refine r_getS (pc := 25) dX4_valueReal_25 fgX4_27 rfl g1 ha9 ?_
        refine r_iload_n (pc := 28) dX4_valueReal_28 rfl 2 rfl ?_
        obtain ⟨g10, h⟩ := gd h
        obtain ⟨g11, h⟩ := gd h
        refine r_daload (pc := 29) dX4_valueReal_29 g10 g11 ?_
        cases h
        exact r_dret dX4_valueReal_30
def fX4_valueReal (σ : Shp) (J : Nat → Nat → Int64) (D : Nat → Nat → UInt64) (R : Nat → Nat → Option Nat) (t : Nat) (x1 : Int32) : Option ((UInt64)) :=
  fX4_valueReal_l2 σ J D R t FUx x1 x1
theorem kX4_valueReal {G : Gx} {l : Launch} {σ : Shp} {I : Nat → Nat → Int32} {J : Nat → Nat → Int64} {D : Nat → Nat → UInt64} {R : Nat → Nat → Option Nat} {t : Nat} {x1 : Int32} {r9 : UInt64} (h : fX4_valueReal σ J D R t x1 = some r9) : Con G l yX4_valueReal cX4_valueReal 3 (some .double) 0 0 [vR (some t), vI x1] (σ, I, J, D, R) (σ, I, J, D, R) (some (vD r9)) := by
  unfold fX4_valueReal at h
  refine Con.mk (by decide +kernel) rfl (Nat.le_of_ble_eq_true rfl) ?_
  show WX4_valueReal G l σ (σ, I, J, D, R) (some (vD r9)) (σ, I, J, D, R) 0 _ []
  refine r_iload_n (pc := 0) dX4_valueReal_0 rfl 1 rfl ?_
  refine r_istore_n (pc := 1) (L' := [(2, vI x1), (0, vR (some t)), (1, vI x1)]) dX4_valueReal_1 rfl (by decide) rfl ?_
  refine r_sub [1, 2, 0] rfl ?_
  exact wX4_valueReal_l2 _ _ _ h
abbrev WX4_wishAt (G : Gx) (l : Launch) (σ0 : Shp) (X1 : Stt) (rv : Option SV) : Stt → Nat → List (Nat × SV) → List SV → Prop := Wm G l yX4_wishAt cX4_wishAt 11 (some .int) (fun _ => True) (rmx 1 25 σ0 X1.1) σ0 (Qmx G σ0 X1 rv)
def fX4_wishAt_b119  (σ : Shp) (I : Nat → Nat → Int32) (R : Nat → Nat → Option Nat) (t : Nat) (x1 : Int32) (x2 : Int32) (x5 : Int32) (x6 : Int32) (x7 : Int32) (s0 : Int32) (s1 : Int32) : Option ((Int32)) :=
  let v21 := (s0 + s1)
  if x7 < v21 then
    if kdx σ t = 5 then
    ((R t 11) : Option Nat).bind fun a23 =>
    if kdx σ a23 = 28 then
    if ¬ (x1 < 0 ∨ lnx σ a23 ≤ Int32.toNatClampNeg x1) then
    ((R a23 (Int32.toNatClampNeg x1)) : Option Nat).bind fun a26 =>
    if kdx σ a26 = 20 then
    if ¬ (x6 < 0 ∨ lnx σ a26 ≤ Int32.toNatClampNeg x6) then
    if ¬ (x5 < 0 ∨ lnx σ a26 ≤ Int32.toNatClampNeg x5) then
    let v30 := ((Int32.toInt64 (I a26 (Int32.toNatClampNeg x6))) - (Int32.toInt64 (I a26 (Int32.toNatClampNeg x5))))
    (fXM_floorDiv (v30 * (Int32.toInt64 (x2 - x7))) (Int32.toInt64 (v21 - x7))).bind fun r31 =>
    some (Int64.toInt32 ((Int32.toInt64 (I a26 (Int32.toNatClampNeg x5))) + r31))
    else none
    else none
    else none
    else none
    else none
    else none
  else
    if kdx σ t = 5 then
    ((R t 11) : Option Nat).bind fun a34 =>
    if kdx σ a34 = 28 then
    if ¬ (x1 < 0 ∨ lnx σ a34 ≤ Int32.toNatClampNeg x1) then
    ((R a34 (Int32.toNatClampNeg x1)) : Option Nat).bind fun a37 =>
    if kdx σ a37 = 20 then
    if ¬ (x5 < 0 ∨ lnx σ a37 ≤ Int32.toNatClampNeg x5) then
    some (I a37 (Int32.toNatClampNeg x5))
    else none
    else none
    else none
    else none
    else none
theorem wX4_wishAt_b119 {G : Gx} {l : Launch} {σ : Shp} {I : Nat → Nat → Int32} {J : Nat → Nat → Int64} {D : Nat → Nat → UInt64} {R : Nat → Nat → Option Nat} {t : Nat} {r9 : Int32} {x1 : Int32} {x2 : Int32} {x5 : Int32} {x6 : Int32} {x7 : Int32} {s0 : Int32} {s1 : Int32} (h : fX4_wishAt_b119 σ I R t x1 x2 x5 x6 x7 s0 s1 = some r9) : WX4_wishAt G l σ (σ, I, J, D, R) (some (vI r9)) (σ, I, J, D, R) 119 [(0, vR (some t)), (1, vI x1), (2, vI x2), (5, vI x5), (6, vI x6), (7, vI x7)] [vI s1, vI s0] := by
  unfold fX4_wishAt_b119 at h
  refine r_iadd (pc := 119) dX4_wishAt_119 ?_
  refine r_istore (pc := 120) (L' := [(8, vI (s0 + s1)), (0, vR (some t)), (1, vI x1), (2, vI x2), (5, vI x5), (6, vI x6), (7, vI x7)]) dX4_wishAt_120 (by decide) rfl ?_
  refine r_iload (pc := 122) dX4_wishAt_122 0 rfl ?_
  refine r_iload (pc := 124) dX4_wishAt_124 6 rfl ?_
  refine r_icmp_gt (pc := 126) (tgt := 139) dX4_wishAt_126 rfl (fun c => ?_) (fun c => ?_)
  · have h := it h c
    refine r_aload_n (pc := 139) dX4_wishAt_139 rfl 1 rfl ?_
    obtain ⟨g22, h⟩ := gd h
    obtain ⟨a23, ha23, h⟩ := ob h
    refine r_getS (pc := 140) dX4_wishAt_140 fgX4_58 rfl g22 ha23 ?_
    refine r_iload_n (pc := 143) dX4_wishAt_143 rfl 2 rfl ?_
    obtain ⟨g24, h⟩ := gd h
    obtain ⟨g25, h⟩ := gd h
    refine r_aaload (pc := 144) dX4_wishAt_144 g24 (by decide) g25 ?_
    obtain ⟨a26, ha26, h⟩ := ob h
    refine r_ref0 ha26 ?_
    refine r_iload (pc := 145) dX4_wishAt_145 5 rfl ?_
    obtain ⟨g27, h⟩ := gd h
    obtain ⟨g28, h⟩ := gd h
    refine r_iaload (pc := 147) dX4_wishAt_147 g27 g28 ?_
    refine r_i2l (pc := 148) dX4_wishAt_148 ?_
    refine r_aload_n (pc := 149) dX4_wishAt_149 rfl 1 rfl ?_
    refine r_getS (pc := 150) dX4_wishAt_150 fgX4_58 rfl g22 ha23 ?_
    refine r_iload_n (pc := 153) dX4_wishAt_153 rfl 2 rfl ?_
    refine r_aaload (pc := 154) dX4_wishAt_154 g24 (by decide) g25 ?_
    refine r_ref0 ha26 ?_
    refine r_iload (pc := 155) dX4_wishAt_155 4 rfl ?_
    obtain ⟨g29, h⟩ := gd h
    refine r_iaload (pc := 157) dX4_wishAt_157 g27 g29 ?_
    refine r_i2l (pc := 158) dX4_wishAt_158 ?_
    refine r_lsub (pc := 159) dX4_wishAt_159 ?_
    refine r_lstore (pc := 160) (L' := [(9, vL ((Int32.toInt64 (I a26 (Int32.toNatClampNeg x6))) - (Int32.toInt64 (I a26 (Int32.toNatClampNeg x5))))), (8, vI (s0 + s1)), (0, vR (some t)), (1, vI x1), (2, vI x2), (5, vI x5), (6, vI x6), (7, vI x7)]) dX4_wishAt_160 (by decide) rfl ?_
    refine r_aload_n (pc := 162) dX4_wishAt_162 rfl 2 rfl ?_
    refine r_getS (pc := 163) dX4_wishAt_163 fgX4_58 rfl g22 ha23 ?_
    refine r_iload_n (pc := 166) dX4_wishAt_166 rfl 3 rfl ?_
    refine r_aaload (pc := 167) dX4_wishAt_167 g24 (by decide) g25 ?_
    refine r_ref0 ha26 ?_
    refine r_iload (pc := 168) dX4_wishAt_168 5 rfl ?_
    refine r_iaload (pc := 170) dX4_wishAt_170 g27 g29 ?_
    refine r_i2l (pc := 171) dX4_wishAt_171 ?_
    refine r_lload (pc := 172) dX4_wishAt_172 0 rfl ?_
    refine r_iload_n (pc := 174) dX4_wishAt_174 rfl 4 rfl ?_
    refine r_iload (pc := 175) dX4_wishAt_175 7 rfl ?_
    refine r_isub (pc := 177) dX4_wishAt_177 ?_
    refine r_i2l (pc := 178) dX4_wishAt_178 ?_
    refine r_lmul (pc := 179) dX4_wishAt_179 ?_
    refine r_iload (pc := 180) dX4_wishAt_180 1 rfl ?_
    refine r_iload (pc := 182) dX4_wishAt_182 7 rfl ?_
    refine r_isub (pc := 184) dX4_wishAt_184 ?_
    refine r_i2l (pc := 185) dX4_wishAt_185 ?_
    obtain ⟨r31, hc32, h⟩ := ob h
    refine r_callS1 (pc := 186) (av := [vL (((Int32.toInt64 (I a26 (Int32.toNatClampNeg x6))) - (Int32.toInt64 (I a26 (Int32.toNatClampNeg x5)))) * (Int32.toInt64 (x2 - x7))), vL (Int32.toInt64 ((s0 + s1) - x7))]) (S := [vL (Int32.toInt64 (I a26 (Int32.toNatClampNeg x5)))]) dX4_wishAt_186 (kXM_floorDiv hc32) mkX4_101 mwXM_floorDiv rfl ⟨Nat.le_of_ble_eq_true rfl, Nat.le_of_ble_eq_true rfl⟩ (Nat.le_of_ble_eq_true rfl) ⟨Nat.le_refl _, Nat.le_refl _⟩ (fun b => b) ?_
    refine r_ladd (pc := 189) dX4_wishAt_189 ?_
    refine r_l2i (pc := 190) dX4_wishAt_190 ?_
    cases h
    exact r_iret dX4_wishAt_191
  · have h := ie h c
    refine r_aload_n (pc := 129) dX4_wishAt_129 rfl 1 rfl ?_
    obtain ⟨g33, h⟩ := gd h
    obtain ⟨a34, ha34, h⟩ := ob h
    refine r_getS (pc := 130) dX4_wishAt_130 fgX4_58 rfl g33 ha34 ?_
    refine r_iload_n (pc := 133) dX4_wishAt_133 rfl 2 rfl ?_
    obtain ⟨g35, h⟩ := gd h
    obtain ⟨g36, h⟩ := gd h
    refine r_aaload (pc := 134) dX4_wishAt_134 g35 (by decide) g36 ?_
    obtain ⟨a37, ha37, h⟩ := ob h
    refine r_ref0 ha37 ?_
    refine r_iload (pc := 135) dX4_wishAt_135 4 rfl ?_
    obtain ⟨g38, h⟩ := gd h
    obtain ⟨g39, h⟩ := gd h
    refine r_iaload (pc := 137) dX4_wishAt_137 g38 g39 ?_
    cases h
    exact r_iret dX4_wishAt_138
def fX4_wishAt_b94  (σ : Shp) (I : Nat → Nat → Int32) (R : Nat → Nat → Option Nat) (t : Nat) (x1 : Int32) (x2 : Int32) (x3 : Int32) (x4 : Int32) (x5 : Int32) (x6 : Int32) (s0 : Int32) (s1 : Int32) : Option ((Int32)) :=
  let v13 := (s0 - s1)
  if kdx σ t = 5 then
  ((R t 10) : Option Nat).bind fun a15 =>
  if kdx σ a15 = 28 then
  if ¬ (x1 < 0 ∨ lnx σ a15 ≤ Int32.toNatClampNeg x1) then
  ((R a15 (Int32.toNatClampNeg x1)) : Option Nat).bind fun a18 =>
  if kdx σ a18 = 20 then
  if ¬ (x6 < 0 ∨ lnx σ a18 ≤ Int32.toNatClampNeg x6) then
  if x4 = x3 then
    fX4_wishAt_b119 σ I R t x1 x2 x5 x6 v13 (I a18 (Int32.toNatClampNeg x6)) (1440 : Int32)
  else
    fX4_wishAt_b119 σ I R t x1 x2 x5 x6 v13 (I a18 (Int32.toNatClampNeg x6)) (0 : Int32)
  else none
  else none
  else none
  else none
  else none
theorem wX4_wishAt_b94 {G : Gx} {l : Launch} {σ : Shp} {I : Nat → Nat → Int32} {J : Nat → Nat → Int64} {D : Nat → Nat → UInt64} {R : Nat → Nat → Option Nat} {t : Nat} {r9 : Int32} {x1 : Int32} {x2 : Int32} {x3 : Int32} {x4 : Int32} {x5 : Int32} {x6 : Int32} {s0 : Int32} {s1 : Int32} (h : fX4_wishAt_b94 σ I R t x1 x2 x3 x4 x5 x6 s0 s1 = some r9) : WX4_wishAt G l σ (σ, I, J, D, R) (some (vI r9)) (σ, I, J, D, R) 94 [(0, vR (some t)), (1, vI x1), (2, vI x2), (3, vI x3), (4, vI x4), (5, vI x5), (6, vI x6)] [vI s1, vI s0] := by
  unfold fX4_wishAt_b94 at h
  refine r_isub (pc := 94) dX4_wishAt_94 ?_
  refine r_istore (pc := 95) (L' := [(7, vI (s0 - s1)), (0, vR (some t)), (1, vI x1), (2, vI x2), (3, vI x3), (4, vI x4), (5, vI x5), (6, vI x6)]) dX4_wishAt_95 (by decide) rfl ?_
  refine r_aload_n (pc := 97) dX4_wishAt_97 rfl 1 rfl ?_
  obtain ⟨g14, h⟩ := gd h
  obtain ⟨a15, ha15, h⟩ := ob h
  refine r_getS (pc := 98) dX4_wishAt_98 fgX4_55 rfl g14 ha15 ?_
  refine r_iload_n (pc := 101) dX4_wishAt_101 rfl 2 rfl ?_
  obtain ⟨g16, h⟩ := gd h
  obtain ⟨g17, h⟩ := gd h
  refine r_aaload (pc := 102) dX4_wishAt_102 g16 (by decide) g17 ?_
  obtain ⟨a18, ha18, h⟩ := ob h
  refine r_ref0 ha18 ?_
  refine r_iload (pc := 103) dX4_wishAt_103 7 rfl ?_
  obtain ⟨g19, h⟩ := gd h
  obtain ⟨g20, h⟩ := gd h
  refine r_iaload (pc := 105) dX4_wishAt_105 g19 g20 ?_
  refine r_iload (pc := 106) dX4_wishAt_106 5 rfl ?_
  refine r_iload_n (pc := 108) dX4_wishAt_108 rfl 4 rfl ?_
  refine r_icmp_ne (pc := 109) (tgt := 118) dX4_wishAt_109 rfl (fun c => ?_) (fun c => ?_)
  · have h := ie h c
    refine r_iconst (pc := 118) dX4_wishAt_118 kc_iconst_0 ?_
    refine r_sub [1, 2, 3, 6, 7, 0] rfl ?_
    exact wX4_wishAt_b119 h
  · have h := it h c
    refine r_sipush (pc := 112) dX4_wishAt_112 kc_sipush_1440 ?_
    refine r_goto (pc := 115) (tgt := 119) dX4_wishAt_115 rfl ?_
    refine r_sub [1, 2, 3, 6, 7, 0] rfl ?_
    exact wX4_wishAt_b119 h
def fX4_wishAt_b57  (σ : Shp) (I : Nat → Nat → Int32) (R : Nat → Nat → Option Nat) (t : Nat) (x1 : Int32) (x2 : Int32) (x3 : Int32) (x4 : Int32) (s0 : Int32) : Option ((Int32)) :=
  if x4 = x3 then
    if kdx σ t = 5 then
    ((R t 10) : Option Nat).bind fun a41 =>
    if kdx σ a41 = 28 then
    if ¬ (x1 < 0 ∨ lnx σ a41 ≤ Int32.toNatClampNeg x1) then
    ((R a41 (Int32.toNatClampNeg x1)) : Option Nat).bind fun a44 =>
    if kdx σ a44 = 20 then
    if ¬ (s0 < 0 ∨ lnx σ a44 ≤ Int32.toNatClampNeg s0) then
    if x4 = 0 then
      fX4_wishAt_b94 σ I R t x1 x2 x3 x4 s0 (0 : Int32) (I a44 (Int32.toNatClampNeg s0)) (1440 : Int32)
    else
      fX4_wishAt_b94 σ I R t x1 x2 x3 x4 s0 (0 : Int32) (I a44 (Int32.toNatClampNeg s0)) (0 : Int32)
    else none
    else none
    else none
    else none
    else none
  else
    if kdx σ t = 5 then
    ((R t 10) : Option Nat).bind fun a7 =>
    if kdx σ a7 = 28 then
    if ¬ (x1 < 0 ∨ lnx σ a7 ≤ Int32.toNatClampNeg x1) then
    ((R a7 (Int32.toNatClampNeg x1)) : Option Nat).bind fun a10 =>
    if kdx σ a10 = 20 then
    if ¬ (s0 < 0 ∨ lnx σ a10 ≤ Int32.toNatClampNeg s0) then
    if x4 = 0 then
      fX4_wishAt_b94 σ I R t x1 x2 x3 x4 s0 x4 (I a10 (Int32.toNatClampNeg s0)) (1440 : Int32)
    else
      fX4_wishAt_b94 σ I R t x1 x2 x3 x4 s0 x4 (I a10 (Int32.toNatClampNeg s0)) (0 : Int32)
    else none
    else none
    else none
    else none
    else none
theorem wX4_wishAt_b57 {G : Gx} {l : Launch} {σ : Shp} {I : Nat → Nat → Int32} {J : Nat → Nat → Int64} {D : Nat → Nat → UInt64} {R : Nat → Nat → Option Nat} {t : Nat} {r9 : Int32} {x1 : Int32} {x2 : Int32} {x3 : Int32} {x4 : Int32} {s0 : Int32} (h : fX4_wishAt_b57 σ I R t x1 x2 x3 x4 s0 = some r9) : WX4_wishAt G l σ (σ, I, J, D, R) (some (vI r9)) (σ, I, J, D, R) 57 [(0, vR (some t)), (1, vI x1), (2, vI x2), (3, vI x3), (4, vI x4)] [vI s0] := by
  unfold fX4_wishAt_b57 at h
  refine r_istore (pc := 57) (L' := [(5, vI s0), (0, vR (some t)), (1, vI x1), (2, vI x2), (3, vI x3), (4, vI x4)]) dX4_wishAt_57 (by decide) rfl ?_
  refine r_iload (pc := 59) dX4_wishAt_59 5 rfl ?_
  refine r_iload_n (pc := 61) dX4_wishAt_61 rfl 4 rfl ?_
  refine r_icmp_ne (pc := 62) (tgt := 69) dX4_wishAt_62 rfl (fun c => ?_) (fun c => ?_)
  · have h := ie h c
    refine r_iload (pc := 69) dX4_wishAt_69 5 rfl ?_
    refine r_istore (pc := 71) (L' := [(6, vI x4), (5, vI s0), (0, vR (some t)), (1, vI x1), (2, vI x2), (3, vI x3), (4, vI x4)]) dX4_wishAt_71 (by decide) rfl ?_
    refine r_aload_n (pc := 73) dX4_wishAt_73 rfl 2 rfl ?_
    obtain ⟨g6, h⟩ := gd h
    obtain ⟨a7, ha7, h⟩ := ob h
    refine r_getS (pc := 74) dX4_wishAt_74 fgX4_55 rfl g6 ha7 ?_
    refine r_iload_n (pc := 77) dX4_wishAt_77 rfl 3 rfl ?_
    obtain ⟨g8, h⟩ := gd h
    obtain ⟨g9, h⟩ := gd h
    refine r_aaload (pc := 78) dX4_wishAt_78 g8 (by decide) g9 ?_
    obtain ⟨a10, ha10, h⟩ := ob h
    refine r_ref0 ha10 ?_
    refine r_iload (pc := 79) dX4_wishAt_79 1 rfl ?_
    obtain ⟨g11, h⟩ := gd h
    obtain ⟨g12, h⟩ := gd h
    refine r_iaload (pc := 81) dX4_wishAt_81 g11 g12 ?_
    refine r_iload (pc := 82) dX4_wishAt_82 6 rfl ?_
    refine r_ifne (pc := 84) (tgt := 93) dX4_wishAt_84 rfl (fun c => ?_) (fun c => ?_)
    · have h := ie h c
      refine r_iconst (pc := 93) dX4_wishAt_93 kc_iconst_0 ?_
      refine r_sub [2, 3, 4, 5, 6, 1, 0] rfl ?_
      exact wX4_wishAt_b94 h
    · have h := it h c
      refine r_sipush (pc := 87) dX4_wishAt_87 kc_sipush_1440 ?_
      refine r_goto (pc := 90) (tgt := 94) dX4_wishAt_90 rfl ?_
      refine r_sub [2, 3, 4, 5, 6, 1, 0] rfl ?_
      exact wX4_wishAt_b94 h
  · have h := it h c
    refine r_iconst (pc := 65) dX4_wishAt_65 kc_iconst_0 ?_
    refine r_goto (pc := 66) (tgt := 71) dX4_wishAt_66 rfl ?_
    refine r_istore (pc := 71) (L' := [(6, vI (0 : Int32)), (5, vI s0), (0, vR (some t)), (1, vI x1), (2, vI x2), (3, vI x3), (4, vI x4)]) dX4_wishAt_71 (by decide) rfl ?_
    refine r_aload_n (pc := 73) dX4_wishAt_73 rfl 2 rfl ?_
    obtain ⟨g40, h⟩ := gd h
    obtain ⟨a41, ha41, h⟩ := ob h
    refine r_getS (pc := 74) dX4_wishAt_74 fgX4_55 rfl g40 ha41 ?_
    refine r_iload_n (pc := 77) dX4_wishAt_77 rfl 3 rfl ?_
    obtain ⟨g42, h⟩ := gd h
    obtain ⟨g43, h⟩ := gd h
    refine r_aaload (pc := 78) dX4_wishAt_78 g42 (by decide) g43 ?_
    obtain ⟨a44, ha44, h⟩ := ob h
    refine r_ref0 ha44 ?_
    refine r_iload (pc := 79) dX4_wishAt_79 1 rfl ?_
    obtain ⟨g45, h⟩ := gd h
    obtain ⟨g46, h⟩ := gd h
    refine r_iaload (pc := 81) dX4_wishAt_81 g45 g46 ?_
    refine r_iload (pc := 82) dX4_wishAt_82 6 rfl ?_
    refine r_ifne (pc := 84) (tgt := 93) dX4_wishAt_84 rfl (fun c => ?_) (fun c => ?_)
    · have h := ie h c
      refine r_iconst (pc := 93) dX4_wishAt_93 kc_iconst_0 ?_
      refine r_sub [2, 3, 4, 5, 6, 1, 0] rfl ?_
      exact wX4_wishAt_b94 h
    · have h := it h c
      refine r_sipush (pc := 87) dX4_wishAt_87 kc_sipush_1440 ?_
      refine r_goto (pc := 90) (tgt := 94) dX4_wishAt_90 rfl ?_
      refine r_sub [2, 3, 4, 5, 6, 1, 0] rfl ?_
      exact wX4_wishAt_b94 h
def fX4_wishAt_l17  (σ : Shp) (I : Nat → Nat → Int32) (R : Nat → Nat → Option Nat) (t : Nat) : Nat → (Int32) → (Int32) → (Int32) → (Int32) → Option ((Int32))
  | 0, _, _, _, _ => none
  | n + 1, x1, x2, x3, x4 =>
    if x3 ≤ x4 then
      if x4 = 0 then
        fX4_wishAt_b57 σ I R t x1 x2 x3 x4 (x3 - (1 : Int32))
      else
        fX4_wishAt_b57 σ I R t x1 x2 x3 x4 (x4 - (1 : Int32))
    else
      if kdx σ t = 5 then
      ((R t 10) : Option Nat).bind fun a48 =>
      if kdx σ a48 = 28 then
      if ¬ (x1 < 0 ∨ lnx σ a48 ≤ Int32.toNatClampNeg x1) then
      ((R a48 (Int32.toNatClampNeg x1)) : Option Nat).bind fun a51 =>
      if kdx σ a51 = 20 then
      if ¬ (x4 < 0 ∨ lnx σ a51 ≤ Int32.toNatClampNeg x4) then
      if x2 < (I a51 (Int32.toNatClampNeg x4)) then
        if x4 = 0 then
          fX4_wishAt_b57 σ I R t x1 x2 x3 x4 (x3 - (1 : Int32))
        else
          fX4_wishAt_b57 σ I R t x1 x2 x3 x4 (x4 - (1 : Int32))
      else
        let v54 := x4 + (1 : Int32)
        fX4_wishAt_l17 σ I R t n x1 x2 x3 v54
      else none
      else none
      else none
      else none
      else none
theorem wX4_wishAt_l17 {G : Gx} {l : Launch} {σ : Shp} {I : Nat → Nat → Int32} {J : Nat → Nat → Int64} {D : Nat → Nat → UInt64} {R : Nat → Nat → Option Nat} {t : Nat} {r9 : Int32} : ∀ (n : Nat) (x1 : Int32) (x2 : Int32) (x3 : Int32) (x4 : Int32), fX4_wishAt_l17 σ I R t n x1 x2 x3 x4 = some r9 → WX4_wishAt G l σ (σ, I, J, D, R) (some (vI r9)) (σ, I, J, D, R) 17 [(0, vR (some t)), (1, vI x1), (2, vI x2), (3, vI x3), (4, vI x4)] [] := by
  intro n
  induction n with
  | zero =>
    intro x1 x2 x3 x4 h
    have h : none = some _ := h
    cases h
  | succ n ih =>
    intro x1 x2 x3 x4 h
    rw [fX4_wishAt_l17] at h
    refine r_iload (pc := 17) dX4_wishAt_17 4 rfl ?_
    refine r_iload_n (pc := 19) dX4_wishAt_19 rfl 3 rfl ?_
    refine r_icmp_ge (pc := 20) (tgt := 42) dX4_wishAt_20 rfl (fun c => ?_) (fun c => ?_)
    · have h := it h c
      refine r_iload (pc := 42) dX4_wishAt_42 4 rfl ?_
      refine r_ifne (pc := 44) (tgt := 53) dX4_wishAt_44 rfl (fun c => ?_) (fun c => ?_)
      · have h := ie h c
        refine r_iload (pc := 53) dX4_wishAt_53 4 rfl ?_
        refine r_iconst (pc := 55) dX4_wishAt_55 kc_iconst_1 ?_
        refine r_isub (pc := 56) dX4_wishAt_56 ?_
        refine r_sub [0, 1, 2, 3, 4] rfl ?_
        exact wX4_wishAt_b57 h
      · have h := it h c
        refine r_iload_n (pc := 47) dX4_wishAt_47 rfl 3 rfl ?_
        refine r_iconst (pc := 48) dX4_wishAt_48 kc_iconst_1 ?_
        refine r_isub (pc := 49) dX4_wishAt_49 ?_
        refine r_goto (pc := 50) (tgt := 57) dX4_wishAt_50 rfl ?_
        refine r_sub [0, 1, 2, 3, 4] rfl ?_
        exact wX4_wishAt_b57 h
    · have h := ie h c
      refine r_aload_n (pc := 23) dX4_wishAt_23 rfl 0 rfl ?_
      obtain ⟨g47, h⟩ := gd h
      obtain ⟨a48, ha48, h⟩ := ob h
      refine r_getS (pc := 24) dX4_wishAt_24 fgX4_55 rfl g47 ha48 ?_
      refine r_iload_n (pc := 27) dX4_wishAt_27 rfl 1 rfl ?_
      obtain ⟨g49, h⟩ := gd h
      obtain ⟨g50, h⟩ := gd h
      refine r_aaload (pc := 28) dX4_wishAt_28 g49 (by decide) g50 ?_
      obtain ⟨a51, ha51, h⟩ := ob h
      refine r_ref0 ha51 ?_
      refine r_iload (pc := 29) dX4_wishAt_29 4 rfl ?_
      obtain ⟨g52, h⟩ := gd h
      obtain ⟨g53, h⟩ := gd h
      refine r_iaload (pc := 31) dX4_wishAt_31 g52 g53 ?_
      refine r_iload_n (pc := 32) dX4_wishAt_32 rfl 2 rfl ?_
      refine r_icmp_gt (pc := 33) (tgt := 42) dX4_wishAt_33 rfl (fun c => ?_) (fun c => ?_)
      · have h := it h c
        refine r_iload (pc := 42) dX4_wishAt_42 4 rfl ?_
        refine r_ifne (pc := 44) (tgt := 53) dX4_wishAt_44 rfl (fun c => ?_) (fun c => ?_)
        · have h := ie h c
          refine r_iload (pc := 53) dX4_wishAt_53 4 rfl ?_
          refine r_iconst (pc := 55) dX4_wishAt_55 kc_iconst_1 ?_
          refine r_isub (pc := 56) dX4_wishAt_56 ?_
          refine r_sub [0, 1, 2, 3, 4] rfl ?_
          exact wX4_wishAt_b57 h
        · have h := it h c
          refine r_iload_n (pc := 47) dX4_wishAt_47 rfl 3 rfl ?_
          refine r_iconst (pc := 48) dX4_wishAt_48 kc_iconst_1 ?_
          refine r_isub (pc := 49) dX4_wishAt_49 ?_
          refine r_goto (pc := 50) (tgt := 57) dX4_wishAt_50 rfl ?_
          refine r_sub [0, 1, 2, 3, 4] rfl ?_
          exact wX4_wishAt_b57 h
      · have h := ie h c
        refine r_iinc (pc := 36) (v := (x4 + (1 : Int32))) (L' := [(4, vI (x4 + (1 : Int32))), (0, vR (some t)), (1, vI x1), (2, vI x2), (3, vI x3)]) dX4_wishAt_36 4 rfl (kc_inc_1 _) (by decide) rfl ?_
        refine r_goto (pc := 39) (tgt := 17) dX4_wishAt_39 rfl ?_
        refine r_sub [1, 2, 3, 4, 0] rfl ?_
        exact ih _ _ _ _ h
def fX4_wishAt (σ : Shp) (I : Nat → Nat → Int32) (R : Nat → Nat → Option Nat) (t : Nat) (x1 : Int32) (x2 : Int32) : Option ((Int32)) :=
  if kdx σ t = 5 then
  ((R t 12) : Option Nat).bind fun a2 =>
  if kdx σ a2 = 20 then
  if ¬ (x1 < 0 ∨ lnx σ a2 ≤ Int32.toNatClampNeg x1) then
  let v5 := (I a2 (Int32.toNatClampNeg x1))
  if (1 : Int32) ≤ v5 then
    fX4_wishAt_l17 σ I R t FUx x1 x2 v5 (0 : Int32)
  else
    some (0 : Int32)
  else none
  else none
  else none
theorem kX4_wishAt {G : Gx} {l : Launch} {σ : Shp} {I : Nat → Nat → Int32} {J : Nat → Nat → Int64} {D : Nat → Nat → UInt64} {R : Nat → Nat → Option Nat} {t : Nat} {x1 : Int32} {x2 : Int32} {r9 : Int32} (h : fX4_wishAt σ I R t x1 x2 = some r9) : Con G l yX4_wishAt cX4_wishAt 11 (some .int) 1 25 [vR (some t), vI x1, vI x2] (σ, I, J, D, R) (σ, I, J, D, R) (some (vI r9)) := by
  unfold fX4_wishAt at h
  refine Con.mk (by decide +kernel) rfl (Nat.le_of_ble_eq_true rfl) ?_
  show WX4_wishAt G l σ (σ, I, J, D, R) (some (vI r9)) (σ, I, J, D, R) 0 _ []
  refine r_aload_n (pc := 0) dX4_wishAt_0 rfl 0 rfl ?_
  obtain ⟨g1, h⟩ := gd h
  obtain ⟨a2, ha2, h⟩ := ob h
  refine r_getS (pc := 1) dX4_wishAt_1 fgX4_61 rfl g1 ha2 ?_
  refine r_iload_n (pc := 4) dX4_wishAt_4 rfl 1 rfl ?_
  obtain ⟨g3, h⟩ := gd h
  obtain ⟨g4, h⟩ := gd h
  refine r_iaload (pc := 5) dX4_wishAt_5 g3 g4 ?_
  refine r_istore_n (pc := 6) (L' := [(3, vI (I a2 (Int32.toNatClampNeg x1))), (0, vR (some t)), (1, vI x1), (2, vI x2)]) dX4_wishAt_6 rfl (by decide) rfl ?_
  refine r_iload_n (pc := 7) dX4_wishAt_7 rfl 0 rfl ?_
  refine r_iconst (pc := 8) dX4_wishAt_8 kc_iconst_1 ?_
  refine r_icmp_ge (pc := 9) (tgt := 14) dX4_wishAt_9 rfl (fun c => ?_) (fun c => ?_)
  · have h := it h c
    refine r_iconst (pc := 14) dX4_wishAt_14 kc_iconst_0 ?_
    refine r_istore (pc := 15) (L' := [(4, vI (0 : Int32)), (3, vI (I a2 (Int32.toNatClampNeg x1))), (0, vR (some t)), (1, vI x1), (2, vI x2)]) dX4_wishAt_15 (by decide) rfl ?_
    refine r_sub [2, 3, 4, 1, 0] rfl ?_
    exact wX4_wishAt_l17 _ _ _ _ _ h
  · have h := ie h c
    refine r_iconst (pc := 12) dX4_wishAt_12 kc_iconst_0 ?_
    cases h
    exact r_iret dX4_wishAt_13
abbrev WX4_wantedMove (G : Gx) (l : Launch) (σ0 : Shp) (X1 : Stt) (rv : Option SV) : Stt → Nat → List (Nat × SV) → List SV → Prop := Wm G l yX4_wantedMove cX4_wantedMove 7 (some .long) (fun _ => True) (rmx 2 55 σ0 X1.1) σ0 (Qmx G σ0 X1 rv)
def fX4_wantedMove (σ : Shp) (I : Nat → Nat → Int32) (J : Nat → Nat → Int64) (D : Nat → Nat → UInt64) (R : Nat → Nat → Option Nat) (t : Nat) (x1 : Int32) : Option ((Nat → Nat → Int64) × (Int64)) :=
  if kdx σ t = 5 then
  ((R t 8) : Option Nat).bind fun a2 =>
  if kdx σ a2 = 29 then
  if ¬ (x1 < 0 ∨ lnx σ a2 ≤ Int32.toNatClampNeg x1) then
  ((R a2 (Int32.toNatClampNeg x1)) : Option Nat).bind fun a5 =>
  (fX4_valueReal σ J D R t x1).bind fun r6 =>
  if (FP.dmul r6 (4652007308841189376 : UInt64)) &&& 0x7fffffffffffffff ≤ 0x7ff0000000000000 then
  let v9 := (fX4_bounded (FP.d2l (FP.dmul r6 (4652007308841189376 : UInt64))) (-1000000000 : Int64) (1000000000 : Int64))
  (fX4_wishAt σ I R t x1 ((I t 13) - (I t 13) / (1440 : Int32) * (1440 : Int32))).bind fun r10 =>
  let v12 := (fX4_bounded (v9 - (Int32.toInt64 r10)) (-100000 : Int64) (100000 : Int64))
  if kdx σ a5 = 21 then
  if ¬ ((5 : Int32) < 0 ∨ lnx σ a5 ≤ Int32.toNatClampNeg (5 : Int32)) then
  let J15 := u2 J a5 (Int32.toNatClampNeg (5 : Int32)) (fX4_bounded ((J a5 (Int32.toNatClampNeg (5 : Int32))) + (v12 / (16 : Int64))) (-4000 : Int64) (4000 : Int64))
  some (J15, (fX4_bounded ((v12 / (400 : Int64)) + ((J15 a5 (Int32.toNatClampNeg (5 : Int32))) / (500 : Int64))) (-10 : Int64) (10 : Int64)))
  else none
  else none
  else none
  else none
  else none
  else none
theorem kX4_wantedMove {G : Gx} {l : Launch} {σ : Shp} {I : Nat → Nat → Int32} {J : Nat → Nat → Int64} {D : Nat → Nat → UInt64} {R : Nat → Nat → Option Nat} {t : Nat} {x1 : Int32} {J9 : Nat → Nat → Int64} {r9 : Int64} (h : fX4_wantedMove σ I J D R t x1 = some (J9, r9)) : Con G l yX4_wantedMove cX4_wantedMove 7 (some .long) 2 55 [vR (some t), vI x1] (σ, I, J, D, R) (σ, I, J9, D, R) (some (vL r9)) := by
  unfold fX4_wantedMove at h
  refine Con.mk (by decide +kernel) rfl (Nat.le_of_ble_eq_true rfl) ?_
  show WX4_wantedMove G l σ (σ, I, J9, D, R) (some (vL r9)) (σ, I, J, D, R) 0 _ []
  refine r_aload_n (pc := 0) dX4_wantedMove_0 rfl 0 rfl ?_
  obtain ⟨g1, h⟩ := gd h
  obtain ⟨a2, ha2, h⟩ := ob h
  refine r_getS (pc := 1) dX4_wantedMove_1 fgX4_48 rfl g1 ha2 ?_
  refine r_iload_n (pc := 4) dX4_wantedMove_4 rfl 1 rfl ?_
  obtain ⟨g3, h⟩ := gd h
  obtain ⟨g4, h⟩ := gd h
  refine r_aaload (pc := 5) dX4_wantedMove_5 g3 (by decide) g4 ?_
  obtain ⟨a5, ha5, h⟩ := ob h
  refine r_ref0 ha5 ?_
  refine r_astore_n (pc := 6) (L' := [(2, vR (some a5)), (0, vR (some t)), (1, vI x1)]) dX4_wantedMove_6 rfl (by decide) rfl ?_
  refine r_aload_n (pc := 7) dX4_wantedMove_7 rfl 1 rfl ?_
  refine r_iload_n (pc := 8) dX4_wantedMove_8 rfl 2 rfl ?_
  obtain ⟨r6, hc7, h⟩ := ob h
  refine r_callV1 (pc := 9) (av := [vI x1]) (S := []) dX4_wantedMove_9 (kX4_valueReal hc7) g1 rfl mkX4_119 mwX4_valueReal rfl ⟨Nat.le_of_ble_eq_true rfl, Nat.le_of_ble_eq_true rfl⟩ (Nat.le_of_ble_eq_true rfl) ⟨Nat.le_refl _, Nat.le_refl _⟩ (fun b => b) ?_
  refine r_ldc2d (pc := 12) dX4_wantedMove_12 cdX4_170 ?_
  obtain ⟨g8, h⟩ := gd h
  refine r_dmul (pc := 15) dX4_wantedMove_15 g8 ?_
  refine r_d2l (pc := 16) dX4_wantedMove_16 ?_
  refine r_ldc2 (pc := 17) dX4_wantedMove_17 clX4_172 ?_
  refine r_ldc2 (pc := 20) dX4_wantedMove_20 clX4_174 ?_
  refine r_callS1 (pc := 23) (av := [vL (FP.d2l (FP.dmul r6 (4652007308841189376 : UInt64))), vL (-1000000000 : Int64), vL (1000000000 : Int64)]) (S := []) dX4_wantedMove_23 (kX4_bounded rfl) mkX4_149 mwX4_bounded rfl ⟨Nat.le_of_ble_eq_true rfl, Nat.le_of_ble_eq_true rfl⟩ (Nat.le_of_ble_eq_true rfl) ⟨Nat.le_refl _, Nat.le_refl _⟩ (fun b => b) ?_
  refine r_lstore_n (pc := 26) (L' := [(3, vL (fX4_bounded (FP.d2l (FP.dmul r6 (4652007308841189376 : UInt64))) (-1000000000 : Int64) (1000000000 : Int64))), (2, vR (some a5)), (0, vR (some t)), (1, vI x1)]) dX4_wantedMove_26 rfl (by decide) rfl ?_
  refine r_lload_n (pc := 27) dX4_wantedMove_27 rfl 0 rfl ?_
  refine r_aload_n (pc := 28) dX4_wantedMove_28 rfl 2 rfl ?_
  refine r_iload_n (pc := 29) dX4_wantedMove_29 rfl 3 rfl ?_
  refine r_aload_n (pc := 30) dX4_wantedMove_30 rfl 2 rfl ?_
  refine r_getI (pc := 31) dX4_wantedMove_31 fgX4_85 rfl g1 ?_
  refine r_sipush (pc := 34) dX4_wantedMove_34 kc_sipush_1440 ?_
  refine r_irem (pc := 37) dX4_wantedMove_37 (by decide) ?_
  obtain ⟨r10, hc11, h⟩ := ob h
  refine r_callV1 (pc := 38) (av := [vI x1, vI ((I t 13) - (I t 13) / (1440 : Int32) * (1440 : Int32))]) (S := [vL (fX4_bounded (FP.d2l (FP.dmul r6 (4652007308841189376 : UInt64))) (-1000000000 : Int64) (1000000000 : Int64))]) dX4_wantedMove_38 (kX4_wishAt hc11) g1 rfl mkX4_176 mwX4_wishAt rfl ⟨Nat.le_of_ble_eq_true rfl, Nat.le_of_ble_eq_true rfl⟩ (Nat.le_of_ble_eq_true rfl) ⟨Nat.le_refl _, Nat.le_refl _⟩ (fun b => b) ?_
  refine r_i2l (pc := 41) dX4_wantedMove_41 ?_
  refine r_lsub (pc := 42) dX4_wantedMove_42 ?_
  refine r_ldc2 (pc := 43) dX4_wantedMove_43 clX4_180 ?_
  refine r_ldc2 (pc := 46) dX4_wantedMove_46 clX4_182 ?_
  refine r_callS1 (pc := 49) (av := [vL ((fX4_bounded (FP.d2l (FP.dmul r6 (4652007308841189376 : UInt64))) (-1000000000 : Int64) (1000000000 : Int64)) - (Int32.toInt64 r10)), vL (-100000 : Int64), vL (100000 : Int64)]) (S := []) dX4_wantedMove_49 (kX4_bounded rfl) mkX4_149 mwX4_bounded rfl ⟨Nat.le_of_ble_eq_true rfl, Nat.le_of_ble_eq_true rfl⟩ (Nat.le_of_ble_eq_true rfl) ⟨Nat.le_refl _, Nat.le_refl _⟩ (fun b => b) ?_
  refine r_lstore (pc := 52) (L' := [(5, vL (fX4_bounded ((fX4_bounded (FP.d2l (FP.dmul r6 (4652007308841189376 : UInt64))) (-1000000000 : Int64) (1000000000 : Int64)) - (Int32.toInt64 r10)) (-100000 : Int64) (100000 : Int64))), (3, vL (fX4_bounded (FP.d2l (FP.dmul r6 (4652007308841189376 : UInt64))) (-1000000000 : Int64) (1000000000 : Int64))), (2, vR (some a5)), (0, vR (some t)), (1, vI x1)]) dX4_wantedMove_52 (by decide) rfl ?_
  refine r_aload_n (pc := 54) dX4_wantedMove_54 rfl 2 rfl ?_
  refine r_iconst (pc := 55) dX4_wantedMove_55 kc_iconst_5 ?_
  refine r_aload_n (pc := 56) dX4_wantedMove_56 rfl 2 rfl ?_
  refine r_iconst (pc := 57) dX4_wantedMove_57 kc_iconst_5 ?_
  obtain ⟨g13, h⟩ := gd h
  obtain ⟨g14, h⟩ := gd h
  refine r_laload (pc := 58) dX4_wantedMove_58 g13 g14 ?_
  refine r_lload (pc := 59) dX4_wantedMove_59 0 rfl ?_
  refine r_ldc2 (pc := 61) dX4_wantedMove_61 clX4_184 ?_
  refine r_ldiv (pc := 64) dX4_wantedMove_64 (by decide) ?_
  refine r_ladd (pc := 65) dX4_wantedMove_65 ?_
  refine r_ldc2 (pc := 66) dX4_wantedMove_66 clX4_186 ?_
  refine r_ldc2 (pc := 69) dX4_wantedMove_69 clX4_188 ?_
  refine r_callS1 (pc := 72) (av := [vL ((J a5 (Int32.toNatClampNeg (5 : Int32))) + ((fX4_bounded ((fX4_bounded (FP.d2l (FP.dmul r6 (4652007308841189376 : UInt64))) (-1000000000 : Int64) (1000000000 : Int64)) - (Int32.toInt64 r10)) (-100000 : Int64) (100000 : Int64)) / (16 : Int64))), vL (-4000 : Int64), vL (4000 : Int64)]) (S := [vI (5 : Int32), vR (some a5)]) dX4_wantedMove_72 (kX4_bounded rfl) mkX4_149 mwX4_bounded rfl ⟨Nat.le_of_ble_eq_true rfl, Nat.le_of_ble_eq_true rfl⟩ (Nat.le_of_ble_eq_true rfl) ⟨Nat.le_refl _, Nat.le_refl _⟩ (fun b => b) ?_
  refine r_lastore (pc := 75) dX4_wantedMove_75 g13 g14 ?_
  refine r_lload (pc := 76) dX4_wantedMove_76 0 rfl ?_
  refine r_ldc2 (pc := 78) dX4_wantedMove_78 clX4_190 ?_
  refine r_ldiv (pc := 81) dX4_wantedMove_81 (by decide) ?_
  refine r_aload_n (pc := 82) dX4_wantedMove_82 rfl 2 rfl ?_
  refine r_iconst (pc := 83) dX4_wantedMove_83 kc_iconst_5 ?_
  refine r_laload (pc := 84) dX4_wantedMove_84 g13 g14 ?_
  refine r_ldc2 (pc := 85) dX4_wantedMove_85 clX4_192 ?_
  refine r_ldiv (pc := 88) dX4_wantedMove_88 (by decide) ?_
  refine r_ladd (pc := 89) dX4_wantedMove_89 ?_
  refine r_ldc2 (pc := 90) dX4_wantedMove_90 clX4_145 ?_
  refine r_ldc2 (pc := 93) dX4_wantedMove_93 clX4_147 ?_
  refine r_callS1 (pc := 96) (av := [vL (((fX4_bounded ((fX4_bounded (FP.d2l (FP.dmul r6 (4652007308841189376 : UInt64))) (-1000000000 : Int64) (1000000000 : Int64)) - (Int32.toInt64 r10)) (-100000 : Int64) (100000 : Int64)) / (400 : Int64)) + (((u2 J a5 (Int32.toNatClampNeg (5 : Int32)) (fX4_bounded ((J a5 (Int32.toNatClampNeg (5 : Int32))) + ((fX4_bounded ((fX4_bounded (FP.d2l (FP.dmul r6 (4652007308841189376 : UInt64))) (-1000000000 : Int64) (1000000000 : Int64)) - (Int32.toInt64 r10)) (-100000 : Int64) (100000 : Int64)) / (16 : Int64))) (-4000 : Int64) (4000 : Int64))) a5 (Int32.toNatClampNeg (5 : Int32))) / (500 : Int64))), vL (-10 : Int64), vL (10 : Int64)]) (S := []) dX4_wantedMove_96 (kX4_bounded rfl) mkX4_149 mwX4_bounded rfl ⟨Nat.le_of_ble_eq_true rfl, Nat.le_of_ble_eq_true rfl⟩ (Nat.le_of_ble_eq_true rfl) ⟨Nat.le_refl _, Nat.le_refl _⟩ (fun b => b) ?_
  cases h
  exact r_lret dX4_wantedMove_99
abbrev WX4_steer (G : Gx) (l : Launch) (σ0 : Shp) (X1 : Stt) (rv : Option SV) : Stt → Nat → List (Nat × SV) → List SV → Prop := Wm G l yX4_steer cX4_steer 5 none (fun _ => True) (rmx 3 81 σ0 X1.1) σ0 (Qmx G σ0 X1 rv)
def fX4_steer_b85  (σ : Shp) (I : Nat → Nat → Int32) (D : Nat → Nat → UInt64) (R : Nat → Nat → Option Nat) (t : Nat) (J : Nat → Nat → Int64) (x2 : Option Nat) (x3 : Int64) : Option ((Nat → Nat → Int64)) :=
  if kdx σ t = 5 then
  ((R t 9) : Option Nat).bind fun a22 =>
  if kdx σ a22 = 20 then
  if ¬ ((4 : Int32) < 0 ∨ lnx σ a22 ≤ Int32.toNatClampNeg (4 : Int32)) then
  if (I a22 (Int32.toNatClampNeg (4 : Int32))) = (1 : Int32) then
    (x2 : Option Nat).bind fun a25 =>
    if kdx σ a25 = 21 then
    if ¬ ((3 : Int32) < 0 ∨ lnx σ a25 ≤ Int32.toNatClampNeg (3 : Int32)) then
    if (J a25 (Int32.toNatClampNeg (3 : Int32))) ≤ (20 : Int64) then
      some J
    else
      let J28 := u2 J a25 (Int32.toNatClampNeg (3 : Int32)) (fXM_maxJ (20 : Int64) (x3 - (10 : Int64)))
      some J28
    else none
    else none
  else
    some J
  else none
  else none
  else none
theorem wX4_steer_b85 {G : Gx} {l : Launch} {σ : Shp} {I : Nat → Nat → Int32} {J : Nat → Nat → Int64} {D : Nat → Nat → UInt64} {R : Nat → Nat → Option Nat} {t : Nat} {J9 : Nat → Nat → Int64} {x2 : Option Nat} {x3 : Int64} (h : fX4_steer_b85 σ I D R t J x2 x3 = some J9) : WX4_steer G l σ (σ, I, J9, D, R) none (σ, I, J, D, R) 85 [(0, vR (some t)), (2, vR x2), (3, vL x3)] [] := by
  unfold fX4_steer_b85 at h
  refine r_aload_n (pc := 85) dX4_steer_85 rfl 0 rfl ?_
  obtain ⟨g21, h⟩ := gd h
  obtain ⟨a22, ha22, h⟩ := ob h
  refine r_getS (pc := 86) dX4_steer_86 fgX4_51 rfl g21 ha22 ?_
  refine r_iconst (pc := 89) dX4_steer_89 kc_iconst_4 ?_
  obtain ⟨g23, h⟩ := gd h
  obtain ⟨g24, h⟩ := gd h
  refine r_iaload (pc := 90) dX4_steer_90 g23 g24 ?_
  refine r_iconst (pc := 91) dX4_steer_91 kc_iconst_1 ?_
  refine r_icmp_ne (pc := 92) (tgt := 119) dX4_steer_92 rfl (fun c => ?_) (fun c => ?_)
  · have h := ie h c
    cases h
    exact r_vret dX4_steer_119
  · have h := it h c
    refine r_aload_n (pc := 95) dX4_steer_95 rfl 1 rfl ?_
    refine r_iconst (pc := 96) dX4_steer_96 kc_iconst_3 ?_
    obtain ⟨a25, ha25, h⟩ := ob h
    refine r_ref1 ha25 ?_
    obtain ⟨g26, h⟩ := gd h
    obtain ⟨g27, h⟩ := gd h
    refine r_laload (pc := 97) dX4_steer_97 g26 g27 ?_
    refine r_ldc2 (pc := 98) dX4_steer_98 clX4_168 ?_
    refine r_lcmp (pc := 101) dX4_steer_101 ?_
    refine r_if_le (pc := 102) (tgt := 119) dX4_steer_102 rfl (fun c => ?_) (fun c => ?_)
    · have h := it h (lgc_le.mp c)
      cases h
      exact r_vret dX4_steer_119
    · have h := ie h (fun q => c (lgc_le.mpr q))
      refine r_aload_n (pc := 105) dX4_steer_105 rfl 1 rfl ?_
      refine r_ref0 ha25 ?_
      refine r_iconst (pc := 106) dX4_steer_106 kc_iconst_3 ?_
      refine r_ldc2 (pc := 107) dX4_steer_107 clX4_168 ?_
      refine r_lload_n (pc := 110) dX4_steer_110 rfl 2 rfl ?_
      refine r_ldc2 (pc := 111) dX4_steer_111 clX4_147 ?_
      refine r_lsub (pc := 114) dX4_steer_114 ?_
      refine r_callS1 (pc := 115) (av := [vL (20 : Int64), vL (x3 - (10 : Int64))]) (S := [vI (3 : Int32), vR (some a25)]) dX4_steer_115 (kXM_maxJ rfl) mkX4_142 mwXM_maxJ rfl ⟨Nat.le_of_ble_eq_true rfl, Nat.le_of_ble_eq_true rfl⟩ (Nat.le_of_ble_eq_true rfl) ⟨Nat.le_refl _, Nat.le_refl _⟩ (fun b => b) ?_
      refine r_lastore (pc := 118) dX4_steer_118 g26 g27 ?_
      cases h
      exact r_vret dX4_steer_119
def fX4_steer_b50  (σ : Shp) (I : Nat → Nat → Int32) (D : Nat → Nat → UInt64) (R : Nat → Nat → Option Nat) (t : Nat) (J : Nat → Nat → Int64) (x2 : Option Nat) (x3 : Int64) : Option ((Nat → Nat → Int64)) :=
  (x2 : Option Nat).bind fun a15 =>
  if kdx σ a15 = 21 then
  if ¬ ((3 : Int32) < 0 ∨ lnx σ a15 ≤ Int32.toNatClampNeg (3 : Int32)) then
  let J18 := u2 J a15 (Int32.toNatClampNeg (3 : Int32)) (fX4_towards x3 (10 : Int64))
  if ¬ ((4 : Int32) < 0 ∨ lnx σ a15 ≤ Int32.toNatClampNeg (4 : Int32)) then
  let J20 := u2 J18 a15 (Int32.toNatClampNeg (4 : Int32)) (fX4_towards (J18 a15 (Int32.toNatClampNeg (4 : Int32))) (30 : Int64))
  fX4_steer_b85 σ I D R t J20 x2 x3
  else none
  else none
  else none
theorem wX4_steer_b50 {G : Gx} {l : Launch} {σ : Shp} {I : Nat → Nat → Int32} {J : Nat → Nat → Int64} {D : Nat → Nat → UInt64} {R : Nat → Nat → Option Nat} {t : Nat} {J9 : Nat → Nat → Int64} {x2 : Option Nat} {x3 : Int64} (h : fX4_steer_b50 σ I D R t J x2 x3 = some J9) : WX4_steer G l σ (σ, I, J9, D, R) none (σ, I, J, D, R) 50 [(0, vR (some t)), (2, vR x2), (3, vL x3)] [] := by
  unfold fX4_steer_b50 at h
  refine r_aload_n (pc := 50) dX4_steer_50 rfl 1 rfl ?_
  refine r_iconst (pc := 51) dX4_steer_51 kc_iconst_3 ?_
  refine r_lload_n (pc := 52) dX4_steer_52 rfl 2 rfl ?_
  refine r_ldc2 (pc := 53) dX4_steer_53 clX4_147 ?_
  refine r_callS1 (pc := 56) (av := [vL x3, vL (10 : Int64)]) (S := [vI (3 : Int32), vR x2]) dX4_steer_56 (kX4_towards rfl) mkX4_153 mwX4_towards rfl ⟨Nat.le_of_ble_eq_true rfl, Nat.le_of_ble_eq_true rfl⟩ (Nat.le_of_ble_eq_true rfl) ⟨Nat.le_refl _, Nat.le_refl _⟩ (fun b => b) ?_
  obtain ⟨a15, ha15, h⟩ := ob h
  refine r_ref2 ha15 ?_
  obtain ⟨g16, h⟩ := gd h
  obtain ⟨g17, h⟩ := gd h
  refine r_lastore (pc := 59) dX4_steer_59 g16 g17 ?_
  refine r_aload_n (pc := 60) dX4_steer_60 rfl 1 rfl ?_
  refine r_ref0 ha15 ?_
  refine r_iconst (pc := 61) dX4_steer_61 kc_iconst_4 ?_
  refine r_aload_n (pc := 62) dX4_steer_62 rfl 1 rfl ?_
  refine r_ref0 ha15 ?_
  refine r_iconst (pc := 63) dX4_steer_63 kc_iconst_4 ?_
  obtain ⟨g19, h⟩ := gd h
  refine r_laload (pc := 64) dX4_steer_64 g16 g19 ?_
  refine r_ldc2 (pc := 65) dX4_steer_65 clX4_159 ?_
  refine r_callS1 (pc := 68) (av := [vL ((u2 J a15 (Int32.toNatClampNeg (3 : Int32)) (fX4_towards x3 (10 : Int64))) a15 (Int32.toNatClampNeg (4 : Int32))), vL (30 : Int64)]) (S := [vI (4 : Int32), vR (some a15)]) dX4_steer_68 (kX4_towards rfl) mkX4_153 mwX4_towards rfl ⟨Nat.le_of_ble_eq_true rfl, Nat.le_of_ble_eq_true rfl⟩ (Nat.le_of_ble_eq_true rfl) ⟨Nat.le_refl _, Nat.le_refl _⟩ (fun b => b) ?_
  refine r_lastore (pc := 71) dX4_steer_71 g16 g19 ?_
  refine r_goto (pc := 72) (tgt := 85) dX4_steer_72 rfl ?_
  refine r_sub [0, 1, 2] rfl ?_
  exact wX4_steer_b85 h
def fX4_steer (σ : Shp) (I : Nat → Nat → Int32) (J : Nat → Nat → Int64) (D : Nat → Nat → UInt64) (R : Nat → Nat → Option Nat) (t : Nat) (x1 : Int32) : Option ((Nat → Nat → Int64)) :=
  if kdx σ t = 5 then
  ((R t 8) : Option Nat).bind fun a2 =>
  if kdx σ a2 = 29 then
  if ¬ (x1 < 0 ∨ lnx σ a2 ≤ Int32.toNatClampNeg x1) then
  ((R a2 (Int32.toNatClampNeg x1)) : Option Nat).bind fun a5 =>
  if kdx σ a5 = 21 then
  if ¬ ((3 : Int32) < 0 ∨ lnx σ a5 ≤ Int32.toNatClampNeg (3 : Int32)) then
  let v8 := (J a5 (Int32.toNatClampNeg (3 : Int32)))
  ((R t 9) : Option Nat).bind fun a9 =>
  if kdx σ a9 = 20 then
  if ¬ ((3 : Int32) < 0 ∨ lnx σ a9 ≤ Int32.toNatClampNeg (3 : Int32)) then
  if (I a9 (Int32.toNatClampNeg (3 : Int32))) = (1 : Int32) then
    let J36 := u2 J a5 (Int32.toNatClampNeg (3 : Int32)) (fX4_towards v8 (0 : Int64))
    some J36
  else
    ((R t 5) : Option Nat).bind fun a12 =>
    if kdx σ a12 = 21 then
    if ¬ (x1 < 0 ∨ lnx σ a12 ≤ Int32.toNatClampNeg x1) then
    if (fX11_isNumber (J a12 (Int32.toNatClampNeg x1))) = 0 then
      fX4_steer_b50 σ I D R t J (some a5) v8
    else
      (fX4_hasWish σ I R t x1).bind fun r29 =>
      if r29 = 0 then
        fX4_steer_b50 σ I D R t J (some a5) v8
      else
        (fX4_wantedMove σ I J D R t x1).bind fun (J31, r32) =>
        (fX4_moveBy σ J31 R t x1 r32).bind fun J34 =>
        fX4_steer_b85 σ I D R t J34 (some a5) v8
    else none
    else none
  else none
  else none
  else none
  else none
  else none
  else none
  else none
theorem kX4_steer {G : Gx} {l : Launch} {σ : Shp} {I : Nat → Nat → Int32} {J : Nat → Nat → Int64} {D : Nat → Nat → UInt64} {R : Nat → Nat → Option Nat} {t : Nat} {x1 : Int32} {J9 : Nat → Nat → Int64} (h : fX4_steer σ I J D R t x1 = some J9) : Con G l yX4_steer cX4_steer 5 none 3 81 [vR (some t), vI x1] (σ, I, J, D, R) (σ, I, J9, D, R) none := by
  unfold fX4_steer at h
  refine Con.mk (by decide +kernel) rfl (Nat.le_of_ble_eq_true rfl) ?_
  show WX4_steer G l σ (σ, I, J9, D, R) none (σ, I, J, D, R) 0 _ []
  refine r_aload_n (pc := 0) dX4_steer_0 rfl 0 rfl ?_
  obtain ⟨g1, h⟩ := gd h
  obtain ⟨a2, ha2, h⟩ := ob h
  refine r_getS (pc := 1) dX4_steer_1 fgX4_48 rfl g1 ha2 ?_
  refine r_iload_n (pc := 4) dX4_steer_4 rfl 1 rfl ?_
  obtain ⟨g3, h⟩ := gd h
  obtain ⟨g4, h⟩ := gd h
  refine r_aaload (pc := 5) dX4_steer_5 g3 (by decide) g4 ?_
  obtain ⟨a5, ha5, h⟩ := ob h
  refine r_ref0 ha5 ?_
  refine r_astore_n (pc := 6) (L' := [(2, vR (some a5)), (0, vR (some t)), (1, vI x1)]) dX4_steer_6 rfl (by decide) rfl ?_
  refine r_aload_n (pc := 7) dX4_steer_7 rfl 0 rfl ?_
  refine r_iconst (pc := 8) dX4_steer_8 kc_iconst_3 ?_
  obtain ⟨g6, h⟩ := gd h
  obtain ⟨g7, h⟩ := gd h
  refine r_laload (pc := 9) dX4_steer_9 g6 g7 ?_
  refine r_lstore_n (pc := 10) (L' := [(3, vL (J a5 (Int32.toNatClampNeg (3 : Int32)))), (2, vR (some a5)), (0, vR (some t)), (1, vI x1)]) dX4_steer_10 rfl (by decide) rfl ?_
  refine r_aload_n (pc := 11) dX4_steer_11 rfl 2 rfl ?_
  obtain ⟨a9, ha9, h⟩ := ob h
  refine r_getS (pc := 12) dX4_steer_12 fgX4_51 rfl g1 ha9 ?_
  refine r_iconst (pc := 15) dX4_steer_15 kc_iconst_3 ?_
  obtain ⟨g10, h⟩ := gd h
  obtain ⟨g11, h⟩ := gd h
  refine r_iaload (pc := 16) dX4_steer_16 g10 g11 ?_
  refine r_iconst (pc := 17) dX4_steer_17 kc_iconst_1 ?_
  refine r_icmp_ne (pc := 18) (tgt := 30) dX4_steer_18 rfl (fun c => ?_) (fun c => ?_)
  · have h := ie h c
    refine r_aload_n (pc := 30) dX4_steer_30 rfl 2 rfl ?_
    obtain ⟨a12, ha12, h⟩ := ob h
    refine r_getS (pc := 31) dX4_steer_31 fgX4_34 rfl g1 ha12 ?_
    refine r_iload_n (pc := 34) dX4_steer_34 rfl 3 rfl ?_
    obtain ⟨g13, h⟩ := gd h
    obtain ⟨g14, h⟩ := gd h
    refine r_laload (pc := 35) dX4_steer_35 g13 g14 ?_
    refine r_callSN1 (pc := 36) (av := [vL (J a12 (Int32.toNatClampNeg x1))]) (S := []) dX4_steer_36 (kX11_isNumber rfl) nkX4_70 mwX11_isNumber rfl ⟨Nat.le_of_ble_eq_true rfl, Nat.le_of_ble_eq_true rfl⟩ (Nat.le_of_ble_eq_true rfl) ⟨Nat.le_refl _, Nat.le_refl _⟩ (fun b => b) ?_
    refine r_if_eq (pc := 39) (tgt := 50) dX4_steer_39 rfl (fun c => ?_) (fun c => ?_)
    · have h := it h c
      refine r_sub [2, 1, 0] rfl ?_
      exact wX4_steer_b50 h
    · have h := ie h c
      refine r_aload_n (pc := 42) dX4_steer_42 rfl 2 rfl ?_
      refine r_iload_n (pc := 43) dX4_steer_43 rfl 3 rfl ?_
      obtain ⟨r29, hc30, h⟩ := ob h
      refine r_callV1 (pc := 44) (av := [vI x1]) (S := []) dX4_steer_44 (kX4_hasWish hc30) g1 rfl mkX4_156 mwX4_hasWish rfl ⟨Nat.le_of_ble_eq_true rfl, Nat.le_of_ble_eq_true rfl⟩ (Nat.le_of_ble_eq_true rfl) ⟨Nat.le_refl _, Nat.le_refl _⟩ (fun b => b) ?_
      refine r_ifne (pc := 47) (tgt := 75) dX4_steer_47 rfl (fun c => ?_) (fun c => ?_)
      · have h := ie h c
        refine r_aload_n (pc := 75) dX4_steer_75 rfl 2 rfl ?_
        refine r_iload_n (pc := 76) dX4_steer_76 rfl 3 rfl ?_
        refine r_aload_n (pc := 77) dX4_steer_77 rfl 2 rfl ?_
        refine r_iload_n (pc := 78) dX4_steer_78 rfl 3 rfl ?_
        obtain ⟨⟨J31, r32⟩, hc33, h⟩ := ob h
        refine r_callV1 (pc := 79) (av := [vI x1]) (S := [vI x1, vR (some t)]) dX4_steer_79 (kX4_wantedMove hc33) g1 rfl mkX4_161 mwX4_wantedMove rfl ⟨Nat.le_of_ble_eq_true rfl, Nat.le_of_ble_eq_true rfl⟩ (Nat.le_of_ble_eq_true rfl) ⟨Nat.le_refl _, Nat.le_refl _⟩ (fun b => b) ?_
        obtain ⟨J34, hc35, h⟩ := ob h
        refine r_callV0 (pc := 82) (av := [vI x1, vL r32]) (S := []) dX4_steer_82 (kX4_moveBy hc35) g1 rfl mkX4_164 mwX4_moveBy rfl ⟨Nat.le_of_ble_eq_true rfl, Nat.le_of_ble_eq_true rfl⟩ (Nat.le_of_ble_eq_true rfl) ⟨Nat.le_refl _, Nat.le_refl _⟩ (fun b => b) ?_
        refine r_sub [2, 1, 0] rfl ?_
        exact wX4_steer_b85 h
      · have h := it h c
        refine r_sub [2, 1, 0] rfl ?_
        exact wX4_steer_b50 h
  · have h := it h c
    refine r_aload_n (pc := 21) dX4_steer_21 rfl 1 rfl ?_
    refine r_iconst (pc := 22) dX4_steer_22 kc_iconst_3 ?_
    refine r_lload_n (pc := 23) dX4_steer_23 rfl 0 rfl ?_
    refine r_lconst (pc := 24) dX4_steer_24 kc_lconst_0 ?_
    refine r_callS1 (pc := 25) (av := [vL (J a5 (Int32.toNatClampNeg (3 : Int32))), vL (0 : Int64)]) (S := [vI (3 : Int32), vR (some a5)]) dX4_steer_25 (kX4_towards rfl) mkX4_153 mwX4_towards rfl ⟨Nat.le_of_ble_eq_true rfl, Nat.le_of_ble_eq_true rfl⟩ (Nat.le_of_ble_eq_true rfl) ⟨Nat.le_refl _, Nat.le_refl _⟩ (fun b => b) ?_
    refine r_lastore (pc := 28) dX4_steer_28 g6 g7 ?_
    cases h
    exact r_vret dX4_steer_29
abbrev WX4_countOff (G : Gx) (l : Launch) (σ0 : Shp) (X1 : Stt) (rv : Option SV) : Stt → Nat → List (Nat × SV) → List SV → Prop := Wm G l yX4_countOff cX4_countOff 10 none (fun _ => True) (rmx 0 0 σ0 X1.1) σ0 (Qmx G σ0 X1 rv)
def fX4_countOff_b105  (σ : Shp) (J : Nat → Nat → Int64) (D : Nat → Nat → UInt64) (R : Nat → Nat → Option Nat) (t : Nat) (I : Nat → Nat → Int32) (x1 : Int32) (x9 : Int32) (s0 : Option Nat) (s1 : Int32) (s2 : Int32) : Option ((Nat → Nat → Int32)) :=
  (s0 : Option Nat).bind fun a15 =>
  if kdx σ a15 = 20 then
  if ¬ (s1 < 0 ∨ lnx σ a15 ≤ Int32.toNatClampNeg s1) then
  let I18 := u2 I a15 (Int32.toNatClampNeg s1) s2
  if kdx σ t = 5 then
  ((R t 1) : Option Nat).bind fun a20 =>
  if kdx σ a20 = 28 then
  if ¬ (x1 < 0 ∨ lnx σ a20 ≤ Int32.toNatClampNeg x1) then
  ((R a20 (Int32.toNatClampNeg x1)) : Option Nat).bind fun a23 =>
  if x9 = 0 then
    if kdx σ a23 = 20 then
    if ¬ ((3 : Int32) < 0 ∨ lnx σ a23 ≤ Int32.toNatClampNeg (3 : Int32)) then
    let I26 := u2 I18 a23 (Int32.toNatClampNeg (3 : Int32)) ((I18 a23 (Int32.toNatClampNeg (3 : Int32))) + (1 : Int32))
    some I26
    else none
    else none
  else
    if kdx σ a23 = 20 then
    if ¬ ((3 : Int32) < 0 ∨ lnx σ a23 ≤ Int32.toNatClampNeg (3 : Int32)) then
    let I29 := u2 I18 a23 (Int32.toNatClampNeg (3 : Int32)) (0 : Int32)
    some I29
    else none
    else none
  else none
  else none
  else none
  else none
  else none
theorem wX4_countOff_b105 {G : Gx} {l : Launch} {σ : Shp} {I : Nat → Nat → Int32} {J : Nat → Nat → Int64} {D : Nat → Nat → UInt64} {R : Nat → Nat → Option Nat} {t : Nat} {I9 : Nat → Nat → Int32} {x1 : Int32} {x9 : Int32} {s0 : Option Nat} {s1 : Int32} {s2 : Int32} (h : fX4_countOff_b105 σ J D R t I x1 x9 s0 s1 s2 = some I9) : WX4_countOff G l σ (σ, I9, J, D, R) none (σ, I, J, D, R) 105 [(0, vR (some t)), (1, vI x1), (9, vI x9)] [vI s2, vI s1, vR s0] := by
  unfold fX4_countOff_b105 at h
  obtain ⟨a15, ha15, h⟩ := ob h
  refine r_ref2 ha15 ?_
  obtain ⟨g16, h⟩ := gd h
  obtain ⟨g17, h⟩ := gd h
  refine r_iastore (pc := 105) dX4_countOff_105 g16 g17 ?_
  refine r_aload_n (pc := 106) dX4_countOff_106 rfl 0 rfl ?_
  obtain ⟨g19, h⟩ := gd h
  obtain ⟨a20, ha20, h⟩ := ob h
  refine r_getS (pc := 107) dX4_countOff_107 fgX4_20 rfl g19 ha20 ?_
  refine r_iload_n (pc := 110) dX4_countOff_110 rfl 1 rfl ?_
  obtain ⟨g21, h⟩ := gd h
  obtain ⟨g22, h⟩ := gd h
  refine r_aaload (pc := 111) dX4_countOff_111 g21 (by decide) g22 ?_
  obtain ⟨a23, ha23, h⟩ := ob h
  refine r_ref0 ha23 ?_
  refine r_iconst (pc := 112) dX4_countOff_112 kc_iconst_3 ?_
  refine r_iload (pc := 113) dX4_countOff_113 2 rfl ?_
  refine r_if_eq (pc := 115) (tgt := 122) dX4_countOff_115 rfl (fun c => ?_) (fun c => ?_)
  · have h := it h c
    refine r_aload_n (pc := 122) dX4_countOff_122 rfl 0 rfl ?_
    refine r_getS (pc := 123) dX4_countOff_123 fgX4_20 rfl g19 ha20 ?_
    refine r_iload_n (pc := 126) dX4_countOff_126 rfl 1 rfl ?_
    refine r_aaload (pc := 127) dX4_countOff_127 g21 (by decide) g22 ?_
    refine r_ref0 ha23 ?_
    refine r_iconst (pc := 128) dX4_countOff_128 kc_iconst_3 ?_
    obtain ⟨g24, h⟩ := gd h
    obtain ⟨g25, h⟩ := gd h
    refine r_iaload (pc := 129) dX4_countOff_129 g24 g25 ?_
    refine r_iconst (pc := 130) dX4_countOff_130 kc_iconst_1 ?_
    refine r_iadd (pc := 131) dX4_countOff_131 ?_
    refine r_iastore (pc := 132) dX4_countOff_132 g24 g25 ?_
    cases h
    exact r_vret dX4_countOff_133
  · have h := ie h c
    refine r_iconst (pc := 118) dX4_countOff_118 kc_iconst_0 ?_
    refine r_goto (pc := 119) (tgt := 132) dX4_countOff_119 rfl ?_
    obtain ⟨g27, h⟩ := gd h
    obtain ⟨g28, h⟩ := gd h
    refine r_iastore (pc := 132) dX4_countOff_132 g27 g28 ?_
    cases h
    exact r_vret dX4_countOff_133
def fX4_countOff_b77  (σ : Shp) (J : Nat → Nat → Int64) (D : Nat → Nat → UInt64) (R : Nat → Nat → Option Nat) (t : Nat) (I : Nat → Nat → Int32) (x1 : Int32) (s0 : Int32) : Option ((Nat → Nat → Int32)) :=
  if kdx σ t = 5 then
  ((R t 1) : Option Nat).bind fun a11 =>
  if kdx σ a11 = 28 then
  if ¬ (x1 < 0 ∨ lnx σ a11 ≤ Int32.toNatClampNeg x1) then
  ((R a11 (Int32.toNatClampNeg x1)) : Option Nat).bind fun a14 =>
  if s0 = 0 then
    fX4_countOff_b105 σ J D R t I x1 s0 (some a14) (2 : Int32) (0 : Int32)
  else
    if kdx σ a14 = 20 then
    if ¬ ((2 : Int32) < 0 ∨ lnx σ a14 ≤ Int32.toNatClampNeg (2 : Int32)) then
    fX4_countOff_b105 σ J D R t I x1 s0 (some a14) (2 : Int32) ((I a14 (Int32.toNatClampNeg (2 : Int32))) + (1 : Int32))
    else none
    else none
  else none
  else none
  else none
theorem wX4_countOff_b77 {G : Gx} {l : Launch} {σ : Shp} {I : Nat → Nat → Int32} {J : Nat → Nat → Int64} {D : Nat → Nat → UInt64} {R : Nat → Nat → Option Nat} {t : Nat} {I9 : Nat → Nat → Int32} {x1 : Int32} {s0 : Int32} (h : fX4_countOff_b77 σ J D R t I x1 s0 = some I9) : WX4_countOff G l σ (σ, I9, J, D, R) none (σ, I, J, D, R) 77 [(0, vR (some t)), (1, vI x1)] [vI s0] := by
  unfold fX4_countOff_b77 at h
  refine r_istore (pc := 77) (L' := [(9, vI s0), (0, vR (some t)), (1, vI x1)]) dX4_countOff_77 (by decide) rfl ?_
  refine r_aload_n (pc := 79) dX4_countOff_79 rfl 1 rfl ?_
  obtain ⟨g10, h⟩ := gd h
  obtain ⟨a11, ha11, h⟩ := ob h
  refine r_getS (pc := 80) dX4_countOff_80 fgX4_20 rfl g10 ha11 ?_
  refine r_iload_n (pc := 83) dX4_countOff_83 rfl 2 rfl ?_
  obtain ⟨g12, h⟩ := gd h
  obtain ⟨g13, h⟩ := gd h
  refine r_aaload (pc := 84) dX4_countOff_84 g12 (by decide) g13 ?_
  obtain ⟨a14, ha14, h⟩ := ob h
  refine r_ref0 ha14 ?_
  refine r_iconst (pc := 85) dX4_countOff_85 kc_iconst_2 ?_
  refine r_iload (pc := 86) dX4_countOff_86 0 rfl ?_
  refine r_if_eq (pc := 88) (tgt := 104) dX4_countOff_88 rfl (fun c => ?_) (fun c => ?_)
  · have h := it h c
    refine r_iconst (pc := 104) dX4_countOff_104 kc_iconst_0 ?_
    refine r_sub [1, 2, 0] rfl ?_
    exact wX4_countOff_b105 h
  · have h := ie h c
    refine r_aload_n (pc := 91) dX4_countOff_91 rfl 1 rfl ?_
    refine r_getS (pc := 92) dX4_countOff_92 fgX4_20 rfl g10 ha11 ?_
    refine r_iload_n (pc := 95) dX4_countOff_95 rfl 2 rfl ?_
    refine r_aaload (pc := 96) dX4_countOff_96 g12 (by decide) g13 ?_
    refine r_ref0 ha14 ?_
    refine r_iconst (pc := 97) dX4_countOff_97 kc_iconst_2 ?_
    obtain ⟨g30, h⟩ := gd h
    obtain ⟨g31, h⟩ := gd h
    refine r_iaload (pc := 98) dX4_countOff_98 g30 g31 ?_
    refine r_iconst (pc := 99) dX4_countOff_99 kc_iconst_1 ?_
    refine r_iadd (pc := 100) dX4_countOff_100 ?_
    refine r_goto (pc := 101) (tgt := 105) dX4_countOff_101 rfl ?_
    refine r_sub [1, 2, 0] rfl ?_
    exact wX4_countOff_b105 h
def fX4_countOff_b47  (σ : Shp) (J : Nat → Nat → Int64) (D : Nat → Nat → UInt64) (R : Nat → Nat → Option Nat) (t : Nat) (I : Nat → Nat → Int32) (x1 : Int32) (s0 : UInt64) : Option ((Nat → Nat → Int32)) :=
  if 0 ≤ (Op.cmpValue (FP.dcmp s0 (FP.dconst0)) .g) then
    if kdx σ t = 5 then
    if (Op.cmpValue (FP.dcmp s0 (D t 7)) .l) ≤ 0 then
      fX4_countOff_b77 σ J D R t I x1 (0 : Int32)
    else
      fX4_countOff_b77 σ J D R t I x1 (1 : Int32)
    else none
  else
    if kdx σ t = 5 then
    if (Op.cmpValue (FP.dcmp (FP.dneg s0) (D t 7)) .l) ≤ 0 then
      fX4_countOff_b77 σ J D R t I x1 (0 : Int32)
    else
      fX4_countOff_b77 σ J D R t I x1 (1 : Int32)
    else none
theorem wX4_countOff_b47 {G : Gx} {l : Launch} {σ : Shp} {I : Nat → Nat → Int32} {J : Nat → Nat → Int64} {D : Nat → Nat → UInt64} {R : Nat → Nat → Option Nat} {t : Nat} {I9 : Nat → Nat → Int32} {x1 : Int32} {s0 : UInt64} (h : fX4_countOff_b47 σ J D R t I x1 s0 = some I9) : WX4_countOff G l σ (σ, I9, J, D, R) none (σ, I, J, D, R) 47 [(0, vR (some t)), (1, vI x1)] [vD s0] := by
  unfold fX4_countOff_b47 at h
  refine r_dstore (pc := 47) (L' := [(7, vD s0), (0, vR (some t)), (1, vI x1)]) dX4_countOff_47 (by decide) rfl ?_
  refine r_dload (pc := 49) dX4_countOff_49 0 rfl ?_
  refine r_dconst0 (pc := 51) dX4_countOff_51 ?_
  refine r_dcmp (pc := 52) dX4_countOff_52 ?_
  refine r_ifge (pc := 53) (tgt := 62) dX4_countOff_53 rfl (fun c => ?_) (fun c => ?_)
  · have h := it h c
    refine r_dload (pc := 62) dX4_countOff_62 0 rfl ?_
    refine r_aload_n (pc := 64) dX4_countOff_64 rfl 1 rfl ?_
    obtain ⟨g9, h⟩ := gd h
    refine r_getD (pc := 65) dX4_countOff_65 fgX4_42 rfl g9 ?_
    refine r_dcmp (pc := 68) dX4_countOff_68 ?_
    refine r_if_le (pc := 69) (tgt := 76) dX4_countOff_69 rfl (fun c => ?_) (fun c => ?_)
    · have h := it h c
      refine r_iconst (pc := 76) dX4_countOff_76 kc_iconst_0 ?_
      refine r_sub [1, 2] rfl ?_
      exact wX4_countOff_b77 h
    · have h := ie h c
      refine r_iconst (pc := 72) dX4_countOff_72 kc_iconst_1 ?_
      refine r_goto (pc := 73) (tgt := 77) dX4_countOff_73 rfl ?_
      refine r_sub [1, 2] rfl ?_
      exact wX4_countOff_b77 h
  · have h := ie h c
    refine r_dload (pc := 56) dX4_countOff_56 0 rfl ?_
    refine r_dneg (pc := 58) dX4_countOff_58 ?_
    refine r_goto (pc := 59) (tgt := 64) dX4_countOff_59 rfl ?_
    refine r_aload_n (pc := 64) dX4_countOff_64 rfl 1 rfl ?_
    obtain ⟨g32, h⟩ := gd h
    refine r_getD (pc := 65) dX4_countOff_65 fgX4_42 rfl g32 ?_
    refine r_dcmp (pc := 68) dX4_countOff_68 ?_
    refine r_if_le (pc := 69) (tgt := 76) dX4_countOff_69 rfl (fun c => ?_) (fun c => ?_)
    · have h := it h c
      refine r_iconst (pc := 76) dX4_countOff_76 kc_iconst_0 ?_
      refine r_sub [1, 2] rfl ?_
      exact wX4_countOff_b77 h
    · have h := ie h c
      refine r_iconst (pc := 72) dX4_countOff_72 kc_iconst_1 ?_
      refine r_goto (pc := 73) (tgt := 77) dX4_countOff_73 rfl ?_
      refine r_sub [1, 2] rfl ?_
      exact wX4_countOff_b77 h
def fX4_countOff (σ : Shp) (I : Nat → Nat → Int32) (J : Nat → Nat → Int64) (D : Nat → Nat → UInt64) (R : Nat → Nat → Option Nat) (t : Nat) (x1 : Int32) (x2 : Int32) (x3 : Int64) (x5 : UInt64) : Option ((Nat → Nat → Int32)) :=
  if x2 = 0 then
    if kdx σ t = 5 then
    ((R t 1) : Option Nat).bind fun a34 =>
    if kdx σ a34 = 28 then
    if ¬ (x1 < 0 ∨ lnx σ a34 ≤ Int32.toNatClampNeg x1) then
    ((R a34 (Int32.toNatClampNeg x1)) : Option Nat).bind fun a37 =>
    if kdx σ a37 = 20 then
    if ¬ ((2 : Int32) < 0 ∨ lnx σ a37 ≤ Int32.toNatClampNeg (2 : Int32)) then
    let I40 := u2 I a37 (Int32.toNatClampNeg (2 : Int32)) (0 : Int32)
    if ¬ ((3 : Int32) < 0 ∨ lnx σ a37 ≤ Int32.toNatClampNeg (3 : Int32)) then
    let I42 := u2 I40 a37 (Int32.toNatClampNeg (3 : Int32)) (0 : Int32)
    some I42
    else none
    else none
    else none
    else none
    else none
    else none
  else
    if kdx σ t = 5 then
    ((R t 2) : Option Nat).bind fun a2 =>
    if kdx σ a2 = 21 then
    if ¬ (x1 < 0 ∨ lnx σ a2 ≤ Int32.toNatClampNeg x1) then
    if (J a2 (Int32.toNatClampNeg x1)) = x3 then
      fX4_countOff_b47 σ J D R t I x1 (FP.dconst0)
    else
      ((R t 3) : Option Nat).bind fun a5 =>
      if kdx σ a5 = 25 then
      if ¬ (x1 < 0 ∨ lnx σ a5 ≤ Int32.toNatClampNeg x1) then
      if (FP.dsub (D a5 (Int32.toNatClampNeg x1)) x5) &&& 0x7fffffffffffffff ≤ 0x7ff0000000000000 then
      fX4_countOff_b47 σ J D R t I x1 (FP.dsub (D a5 (Int32.toNatClampNeg x1)) x5)
      else none
      else none
      else none
    else none
    else none
    else none
theorem kX4_countOff {G : Gx} {l : Launch} {σ : Shp} {I : Nat → Nat → Int32} {J : Nat → Nat → Int64} {D : Nat → Nat → UInt64} {R : Nat → Nat → Option Nat} {t : Nat} {x1 : Int32} {x2 : Int32} {x3 : Int64} {x5 : UInt64} {I9 : Nat → Nat → Int32} (h : fX4_countOff σ I J D R t x1 x2 x3 x5 = some I9) : Con G l yX4_countOff cX4_countOff 10 none 0 0 [vR (some t), vI x1, vI x2, vL x3, vD x5] (σ, I, J, D, R) (σ, I9, J, D, R) none := by
  unfold fX4_countOff at h
  refine Con.mk (by decide +kernel) rfl (Nat.le_of_ble_eq_true rfl) ?_
  show WX4_countOff G l σ (σ, I9, J, D, R) none (σ, I, J, D, R) 0 _ []
  refine r_iload_n (pc := 0) dX4_countOff_0 rfl 2 rfl ?_
  refine r_ifne (pc := 1) (tgt := 23) dX4_countOff_1 rfl (fun c => ?_) (fun c => ?_)
  · have h := ie h c
    refine r_aload_n (pc := 23) dX4_countOff_23 rfl 0 rfl ?_
    obtain ⟨g1, h⟩ := gd h
    obtain ⟨a2, ha2, h⟩ := ob h
    refine r_getS (pc := 24) dX4_countOff_24 fgX4_23 rfl g1 ha2 ?_
    refine r_iload_n (pc := 27) dX4_countOff_27 rfl 1 rfl ?_
    obtain ⟨g3, h⟩ := gd h
    obtain ⟨g4, h⟩ := gd h
    refine r_laload (pc := 28) dX4_countOff_28 g3 g4 ?_
    refine r_lload_n (pc := 29) dX4_countOff_29 rfl 3 rfl ?_
    refine r_lcmp (pc := 30) dX4_countOff_30 ?_
    refine r_ifne (pc := 31) (tgt := 38) dX4_countOff_31 rfl (fun c => ?_) (fun c => ?_)
    · have h := ie h (fun q => c (lgc_eq.mpr q))
      refine r_aload_n (pc := 38) dX4_countOff_38 rfl 0 rfl ?_
      obtain ⟨a5, ha5, h⟩ := ob h
      refine r_getS (pc := 39) dX4_countOff_39 fgX4_27 rfl g1 ha5 ?_
      refine r_iload_n (pc := 42) dX4_countOff_42 rfl 1 rfl ?_
      obtain ⟨g6, h⟩ := gd h
      obtain ⟨g7, h⟩ := gd h
      refine r_daload (pc := 43) dX4_countOff_43 g6 g7 ?_
      refine r_dload (pc := 44) dX4_countOff_44 4 rfl ?_
      obtain ⟨g8, h⟩ := gd h
      refine r_dsub (pc := 46) dX4_countOff_46 g8 ?_
      refine r_sub [0, 1] rfl ?_
      exact wX4_countOff_b47 h
    · have h := it h (lgc_eq.mp c)
      refine r_dconst0 (pc := 34) dX4_countOff_34 ?_
      refine r_goto (pc := 35) (tgt := 47) dX4_countOff_35 rfl ?_
      refine r_sub [0, 1] rfl ?_
      exact wX4_countOff_b47 h
  · have h := it h c
    refine r_aload_n (pc := 4) dX4_countOff_4 rfl 0 rfl ?_
    obtain ⟨g33, h⟩ := gd h
    obtain ⟨a34, ha34, h⟩ := ob h
    refine r_getS (pc := 5) dX4_countOff_5 fgX4_20 rfl g33 ha34 ?_
    refine r_iload_n (pc := 8) dX4_countOff_8 rfl 1 rfl ?_
    obtain ⟨g35, h⟩ := gd h
    obtain ⟨g36, h⟩ := gd h
    refine r_aaload (pc := 9) dX4_countOff_9 g35 (by decide) g36 ?_
    obtain ⟨a37, ha37, h⟩ := ob h
    refine r_ref0 ha37 ?_
    refine r_iconst (pc := 10) dX4_countOff_10 kc_iconst_2 ?_
    refine r_iconst (pc := 11) dX4_countOff_11 kc_iconst_0 ?_
    obtain ⟨g38, h⟩ := gd h
    obtain ⟨g39, h⟩ := gd h
    refine r_iastore (pc := 12) dX4_countOff_12 g38 g39 ?_
    refine r_aload_n (pc := 13) dX4_countOff_13 rfl 0 rfl ?_
    refine r_getS (pc := 14) dX4_countOff_14 fgX4_20 rfl g33 ha34 ?_
    refine r_iload_n (pc := 17) dX4_countOff_17 rfl 1 rfl ?_
    refine r_aaload (pc := 18) dX4_countOff_18 g35 (by decide) g36 ?_
    refine r_ref0 ha37 ?_
    refine r_iconst (pc := 19) dX4_countOff_19 kc_iconst_3 ?_
    refine r_iconst (pc := 20) dX4_countOff_20 kc_iconst_0 ?_
    obtain ⟨g41, h⟩ := gd h
    refine r_iastore (pc := 21) dX4_countOff_21 g38 g41 ?_
    cases h
    exact r_vret dX4_countOff_22
abbrev WX4_countSame (G : Gx) (l : Launch) (σ0 : Shp) (X1 : Stt) (rv : Option SV) : Stt → Nat → List (Nat × SV) → List SV → Prop := Wm G l yX4_countSame cX4_countSame 6 (some .boolean) (fun _ => True) (rmx 0 0 σ0 X1.1) σ0 (Qmx G σ0 X1 rv)
def fX4_countSame_b75 (q4 : (Nat → Nat → Int32) → (Nat → Nat → Int64) → (Int32) → (Int32) → (Option ((Nat → Nat → Int32) × (Nat → Nat → Int64) × (Int32)))) (σ : Shp) (R : Nat → Nat → Option Nat) (t : Nat) (I : Nat → Nat → Int32) (J : Nat → Nat → Int64) (x3 : Int32) (x5 : Int32) (s0 : Int32) : Option ((Nat → Nat → Int32) × (Nat → Nat → Int64) × (Int32)) :=
  if kdx σ t = 5 then
  ((R t 1) : Option Nat).bind fun a10 =>
  if kdx σ a10 = 28 then
  if ¬ (x3 < 0 ∨ lnx σ a10 ≤ Int32.toNatClampNeg x3) then
  ((R a10 (Int32.toNatClampNeg x3)) : Option Nat).bind fun a13 =>
  if x5 = 0 then
    if kdx σ a13 = 20 then
    if ¬ ((4 : Int32) < 0 ∨ lnx σ a13 ≤ Int32.toNatClampNeg (4 : Int32)) then
    let I16 := u2 I a13 (Int32.toNatClampNeg (4 : Int32)) (1 : Int32)
    ((R t 4) : Option Nat).bind fun a17 =>
    ((R t 2) : Option Nat).bind fun a18 =>
    if kdx σ a18 = 21 then
    if ¬ (x3 < 0 ∨ lnx σ a18 ≤ Int32.toNatClampNeg x3) then
    if kdx σ a17 = 21 then
    if ¬ (x3 < 0 ∨ lnx σ a17 ≤ Int32.toNatClampNeg x3) then
    let J23 := u2 J a17 (Int32.toNatClampNeg x3) (J a18 (Int32.toNatClampNeg x3))
    let v24 := x3 + (3 : Int32)
    q4 I16 J23 s0 v24
    else none
    else none
    else none
    else none
    else none
    else none
  else
    if kdx σ a13 = 20 then
    if ¬ ((4 : Int32) < 0 ∨ lnx σ a13 ≤ Int32.toNatClampNeg (4 : Int32)) then
    let I27 := u2 I a13 (Int32.toNatClampNeg (4 : Int32)) ((I a13 (Int32.toNatClampNeg (4 : Int32))) + (1 : Int32))
    ((R t 4) : Option Nat).bind fun a28 =>
    ((R t 2) : Option Nat).bind fun a29 =>
    if kdx σ a29 = 21 then
    if ¬ (x3 < 0 ∨ lnx σ a29 ≤ Int32.toNatClampNeg x3) then
    if kdx σ a28 = 21 then
    if ¬ (x3 < 0 ∨ lnx σ a28 ≤ Int32.toNatClampNeg x3) then
    let J34 := u2 J a28 (Int32.toNatClampNeg x3) (J a29 (Int32.toNatClampNeg x3))
    let v35 := x3 + (3 : Int32)
    q4 I27 J34 s0 v35
    else none
    else none
    else none
    else none
    else none
    else none
  else none
  else none
  else none
theorem wX4_countSame_b75 {G : Gx} {l : Launch} {σ : Shp} {I : Nat → Nat → Int32} {J : Nat → Nat → Int64} {D : Nat → Nat → UInt64} {R : Nat → Nat → Option Nat} {t : Nat} {I9 : Nat → Nat → Int32} {J9 : Nat → Nat → Int64} {r9 : Int32} {q4 : (Nat → Nat → Int32) → (Nat → Nat → Int64) → (Int32) → (Int32) → (Option ((Nat → Nat → Int32) × (Nat → Nat → Int64) × (Int32)))} {x3 : Int32} {x5 : Int32} {s0 : Int32} (hq4 : ∀ (I : Nat → Nat → Int32) (J : Nat → Nat → Int64) (x2 : Int32) (x3 : Int32), q4 I J x2 x3 = some (I9, J9, r9) → WX4_countSame G l σ (σ, I9, J9, D, R) (some (vI r9)) (σ, I, J, D, R) 4 [(0, vR (some t)), (2, vI x2), (3, vI x3)] []) (h : fX4_countSame_b75 q4 σ R t I J x3 x5 s0 = some (I9, J9, r9)) : WX4_countSame G l σ (σ, I9, J9, D, R) (some (vI r9)) (σ, I, J, D, R) 75 [(0, vR (some t)), (3, vI x3), (5, vI x5)] [vI s0] := by
  unfold fX4_countSame_b75 at h
  refine r_istore_n (pc := 75) (L' := [(2, vI s0), (0, vR (some t)), (3, vI x3), (5, vI x5)]) dX4_countSame_75 rfl (by decide) rfl ?_
  refine r_aload_n (pc := 76) dX4_countSame_76 rfl 1 rfl ?_
  obtain ⟨g9, h⟩ := gd h
  obtain ⟨a10, ha10, h⟩ := ob h
  refine r_getS (pc := 77) dX4_countSame_77 fgX4_20 rfl g9 ha10 ?_
  refine r_iload_n (pc := 80) dX4_countSame_80 rfl 2 rfl ?_
  obtain ⟨g11, h⟩ := gd h
  obtain ⟨g12, h⟩ := gd h
  refine r_aaload (pc := 81) dX4_countSame_81 g11 (by decide) g12 ?_
  obtain ⟨a13, ha13, h⟩ := ob h
  refine r_ref0 ha13 ?_
  refine r_iconst (pc := 82) dX4_countSame_82 kc_iconst_4 ?_
  refine r_iload (pc := 83) dX4_countSame_83 3 rfl ?_
  refine r_if_eq (pc := 85) (tgt := 101) dX4_countSame_85 rfl (fun c => ?_) (fun c => ?_)
  · have h := it h c
    refine r_iconst (pc := 101) dX4_countSame_101 kc_iconst_1 ?_
    obtain ⟨g14, h⟩ := gd h
    obtain ⟨g15, h⟩ := gd h
    refine r_iastore (pc := 102) dX4_countSame_102 g14 g15 ?_
    refine r_aload_n (pc := 103) dX4_countSame_103 rfl 1 rfl ?_
    obtain ⟨a17, ha17, h⟩ := ob h
    refine r_getS (pc := 104) dX4_countSame_104 fgX4_31 rfl g9 ha17 ?_
    refine r_iload_n (pc := 107) dX4_countSame_107 rfl 2 rfl ?_
    refine r_aload_n (pc := 108) dX4_countSame_108 rfl 1 rfl ?_
    obtain ⟨a18, ha18, h⟩ := ob h
    refine r_getS (pc := 109) dX4_countSame_109 fgX4_23 rfl g9 ha18 ?_
    refine r_iload_n (pc := 112) dX4_countSame_112 rfl 2 rfl ?_
    obtain ⟨g19, h⟩ := gd h
    obtain ⟨g20, h⟩ := gd h
    refine r_laload (pc := 113) dX4_countSame_113 g19 g20 ?_
    obtain ⟨g21, h⟩ := gd h
    obtain ⟨g22, h⟩ := gd h
    refine r_lastore (pc := 114) dX4_countSame_114 g21 g22 ?_
    refine r_iinc (pc := 115) (v := (x3 + (3 : Int32))) (L' := [(3, vI (x3 + (3 : Int32))), (2, vI s0), (0, vR (some t)), (5, vI x5)]) dX4_countSame_115 2 rfl (kc_inc_3 _) (by decide) rfl ?_
    refine r_goto (pc := 118) (tgt := 4) dX4_countSame_118 rfl ?_
    refine r_sub [2, 1, 0] rfl ?_
    exact hq4 _ _ _ _ h
  · have h := ie h c
    refine r_aload_n (pc := 88) dX4_countSame_88 rfl 1 rfl ?_
    refine r_getS (pc := 89) dX4_countSame_89 fgX4_20 rfl g9 ha10 ?_
    refine r_iload_n (pc := 92) dX4_countSame_92 rfl 2 rfl ?_
    refine r_aaload (pc := 93) dX4_countSame_93 g11 (by decide) g12 ?_
    refine r_ref0 ha13 ?_
    refine r_iconst (pc := 94) dX4_countSame_94 kc_iconst_4 ?_
    obtain ⟨g25, h⟩ := gd h
    obtain ⟨g26, h⟩ := gd h
    refine r_iaload (pc := 95) dX4_countSame_95 g25 g26 ?_
    refine r_iconst (pc := 96) dX4_countSame_96 kc_iconst_1 ?_
    refine r_iadd (pc := 97) dX4_countSame_97 ?_
    refine r_goto (pc := 98) (tgt := 102) dX4_countSame_98 rfl ?_
    refine r_iastore (pc := 102) dX4_countSame_102 g25 g26 ?_
    refine r_aload_n (pc := 103) dX4_countSame_103 rfl 1 rfl ?_
    obtain ⟨a28, ha28, h⟩ := ob h
    refine r_getS (pc := 104) dX4_countSame_104 fgX4_31 rfl g9 ha28 ?_
    refine r_iload_n (pc := 107) dX4_countSame_107 rfl 2 rfl ?_
    refine r_aload_n (pc := 108) dX4_countSame_108 rfl 1 rfl ?_
    obtain ⟨a29, ha29, h⟩ := ob h
    refine r_getS (pc := 109) dX4_countSame_109 fgX4_23 rfl g9 ha29 ?_
    refine r_iload_n (pc := 112) dX4_countSame_112 rfl 2 rfl ?_
    obtain ⟨g30, h⟩ := gd h
    obtain ⟨g31, h⟩ := gd h
    refine r_laload (pc := 113) dX4_countSame_113 g30 g31 ?_
    obtain ⟨g32, h⟩ := gd h
    obtain ⟨g33, h⟩ := gd h
    refine r_lastore (pc := 114) dX4_countSame_114 g32 g33 ?_
    refine r_iinc (pc := 115) (v := (x3 + (3 : Int32))) (L' := [(3, vI (x3 + (3 : Int32))), (2, vI s0), (0, vR (some t)), (5, vI x5)]) dX4_countSame_115 2 rfl (kc_inc_3 _) (by decide) rfl ?_
    refine r_goto (pc := 118) (tgt := 4) dX4_countSame_118 rfl ?_
    refine r_sub [2, 1, 0] rfl ?_
    exact hq4 _ _ _ _ h
def fX4_countSame_b54 (q4 : (Nat → Nat → Int32) → (Nat → Nat → Int64) → (Int32) → (Int32) → (Option ((Nat → Nat → Int32) × (Nat → Nat → Int64) × (Int32)))) (σ : Shp) (R : Nat → Nat → Option Nat) (t : Nat) (I : Nat → Nat → Int32) (J : Nat → Nat → Int64) (x2 : Int32) (x3 : Int32) (x4 : Int32) (s0 : Int32) : Option ((Nat → Nat → Int32) × (Nat → Nat → Int64) × (Int32)) :=
  if x2 = 0 then
    if x4 = 0 then
      if s0 = 0 then
        fX4_countSame_b75 q4 σ R t I J x3 s0 (1 : Int32)
      else
        fX4_countSame_b75 q4 σ R t I J x3 s0 (0 : Int32)
    else
      fX4_countSame_b75 q4 σ R t I J x3 s0 (0 : Int32)
  else
    fX4_countSame_b75 q4 σ R t I J x3 s0 (1 : Int32)
theorem wX4_countSame_b54 {G : Gx} {l : Launch} {σ : Shp} {I : Nat → Nat → Int32} {J : Nat → Nat → Int64} {D : Nat → Nat → UInt64} {R : Nat → Nat → Option Nat} {t : Nat} {I9 : Nat → Nat → Int32} {J9 : Nat → Nat → Int64} {r9 : Int32} {q4 : (Nat → Nat → Int32) → (Nat → Nat → Int64) → (Int32) → (Int32) → (Option ((Nat → Nat → Int32) × (Nat → Nat → Int64) × (Int32)))} {x2 : Int32} {x3 : Int32} {x4 : Int32} {s0 : Int32} (hq4 : ∀ (I : Nat → Nat → Int32) (J : Nat → Nat → Int64) (x2 : Int32) (x3 : Int32), q4 I J x2 x3 = some (I9, J9, r9) → WX4_countSame G l σ (σ, I9, J9, D, R) (some (vI r9)) (σ, I, J, D, R) 4 [(0, vR (some t)), (2, vI x2), (3, vI x3)] []) (h : fX4_countSame_b54 q4 σ R t I J x2 x3 x4 s0 = some (I9, J9, r9)) : WX4_countSame G l σ (σ, I9, J9, D, R) (some (vI r9)) (σ, I, J, D, R) 54 [(0, vR (some t)), (2, vI x2), (3, vI x3), (4, vI x4)] [vI s0] := by
  unfold fX4_countSame_b54 at h
  refine r_istore (pc := 54) (L' := [(5, vI s0), (0, vR (some t)), (2, vI x2), (3, vI x3), (4, vI x4)]) dX4_countSame_54 (by decide) rfl ?_
  refine r_iload_n (pc := 56) dX4_countSame_56 rfl 2 rfl ?_
  refine r_ifne (pc := 57) (tgt := 70) dX4_countSame_57 rfl (fun c => ?_) (fun c => ?_)
  · have h := ie h c
    refine r_iconst (pc := 70) dX4_countSame_70 kc_iconst_1 ?_
    refine r_goto (pc := 71) (tgt := 75) dX4_countSame_71 rfl ?_
    refine r_sub [1, 3, 0] rfl ?_
    exact wX4_countSame_b75 hq4 h
  · have h := it h c
    refine r_iload (pc := 60) dX4_countSame_60 4 rfl ?_
    refine r_ifne (pc := 62) (tgt := 74) dX4_countSame_62 rfl (fun c => ?_) (fun c => ?_)
    · have h := ie h c
      refine r_iconst (pc := 74) dX4_countSame_74 kc_iconst_0 ?_
      refine r_sub [1, 3, 0] rfl ?_
      exact wX4_countSame_b75 hq4 h
    · have h := it h c
      refine r_iload (pc := 65) dX4_countSame_65 0 rfl ?_
      refine r_ifne (pc := 67) (tgt := 74) dX4_countSame_67 rfl (fun c => ?_) (fun c => ?_)
      · have h := ie h c
        refine r_iconst (pc := 74) dX4_countSame_74 kc_iconst_0 ?_
        refine r_sub [1, 3, 0] rfl ?_
        exact wX4_countSame_b75 hq4 h
      · have h := it h c
        refine r_iconst (pc := 70) dX4_countSame_70 kc_iconst_1 ?_
        refine r_goto (pc := 71) (tgt := 75) dX4_countSame_71 rfl ?_
        refine r_sub [1, 3, 0] rfl ?_
        exact wX4_countSame_b75 hq4 h
def fX4_countSame_b26 (q4 : (Nat → Nat → Int32) → (Nat → Nat → Int64) → (Int32) → (Int32) → (Option ((Nat → Nat → Int32) × (Nat → Nat → Int64) × (Int32)))) (σ : Shp) (R : Nat → Nat → Option Nat) (t : Nat) (I : Nat → Nat → Int32) (J : Nat → Nat → Int64) (x2 : Int32) (x3 : Int32) (s0 : Int32) : Option ((Nat → Nat → Int32) × (Nat → Nat → Int64) × (Int32)) :=
  if s0 = 0 then
    if kdx σ t = 5 then
    ((R t 2) : Option Nat).bind fun a37 =>
    if kdx σ a37 = 21 then
    if ¬ (x3 < 0 ∨ lnx σ a37 ≤ Int32.toNatClampNeg x3) then
    ((R t 4) : Option Nat).bind fun a40 =>
    if kdx σ a40 = 21 then
    if ¬ (x3 < 0 ∨ lnx σ a40 ≤ Int32.toNatClampNeg x3) then
    if (J a37 (Int32.toNatClampNeg x3)) = (J a40 (Int32.toNatClampNeg x3)) then
      fX4_countSame_b54 q4 σ R t I J x2 x3 s0 (1 : Int32)
    else
      fX4_countSame_b54 q4 σ R t I J x2 x3 s0 (0 : Int32)
    else none
    else none
    else none
    else none
    else none
  else
    fX4_countSame_b54 q4 σ R t I J x2 x3 s0 (0 : Int32)
theorem wX4_countSame_b26 {G : Gx} {l : Launch} {σ : Shp} {I : Nat → Nat → Int32} {J : Nat → Nat → Int64} {D : Nat → Nat → UInt64} {R : Nat → Nat → Option Nat} {t : Nat} {I9 : Nat → Nat → Int32} {J9 : Nat → Nat → Int64} {r9 : Int32} {q4 : (Nat → Nat → Int32) → (Nat → Nat → Int64) → (Int32) → (Int32) → (Option ((Nat → Nat → Int32) × (Nat → Nat → Int64) × (Int32)))} {x2 : Int32} {x3 : Int32} {s0 : Int32} (hq4 : ∀ (I : Nat → Nat → Int32) (J : Nat → Nat → Int64) (x2 : Int32) (x3 : Int32), q4 I J x2 x3 = some (I9, J9, r9) → WX4_countSame G l σ (σ, I9, J9, D, R) (some (vI r9)) (σ, I, J, D, R) 4 [(0, vR (some t)), (2, vI x2), (3, vI x3)] []) (h : fX4_countSame_b26 q4 σ R t I J x2 x3 s0 = some (I9, J9, r9)) : WX4_countSame G l σ (σ, I9, J9, D, R) (some (vI r9)) (σ, I, J, D, R) 26 [(0, vR (some t)), (2, vI x2), (3, vI x3)] [vI s0] := by
  unfold fX4_countSame_b26 at h
  refine r_istore (pc := 26) (L' := [(4, vI s0), (0, vR (some t)), (2, vI x2), (3, vI x3)]) dX4_countSame_26 (by decide) rfl ?_
  refine r_iload (pc := 28) dX4_countSame_28 0 rfl ?_
  refine r_ifne (pc := 30) (tgt := 53) dX4_countSame_30 rfl (fun c => ?_) (fun c => ?_)
  · have h := ie h c
    refine r_iconst (pc := 53) dX4_countSame_53 kc_iconst_0 ?_
    refine r_sub [1, 2, 3, 0] rfl ?_
    exact wX4_countSame_b54 hq4 h
  · have h := it h c
    refine r_aload_n (pc := 33) dX4_countSame_33 rfl 1 rfl ?_
    obtain ⟨g36, h⟩ := gd h
    obtain ⟨a37, ha37, h⟩ := ob h
    refine r_getS (pc := 34) dX4_countSame_34 fgX4_23 rfl g36 ha37 ?_
    refine r_iload_n (pc := 37) dX4_countSame_37 rfl 3 rfl ?_
    obtain ⟨g38, h⟩ := gd h
    obtain ⟨g39, h⟩ := gd h
    refine r_laload (pc := 38) dX4_countSame_38 g38 g39 ?_
    refine r_aload_n (pc := 39) dX4_countSame_39 rfl 1 rfl ?_
    obtain ⟨a40, ha40, h⟩ := ob h
    refine r_getS (pc := 40) dX4_countSame_40 fgX4_31 rfl g36 ha40 ?_
    refine r_iload_n (pc := 43) dX4_countSame_43 rfl 3 rfl ?_
    obtain ⟨g41, h⟩ := gd h
    obtain ⟨g42, h⟩ := gd h
    refine r_laload (pc := 44) dX4_countSame_44 g41 g42 ?_
    refine r_lcmp (pc := 45) dX4_countSame_45 ?_
    refine r_ifne (pc := 46) (tgt := 53) dX4_countSame_46 rfl (fun c => ?_) (fun c => ?_)
    · have h := ie h (fun q => c (lgc_eq.mpr q))
      refine r_iconst (pc := 53) dX4_countSame_53 kc_iconst_0 ?_
      refine r_sub [1, 2, 3, 0] rfl ?_
      exact wX4_countSame_b54 hq4 h
    · have h := it h (lgc_eq.mp c)
      refine r_iconst (pc := 49) dX4_countSame_49 kc_iconst_1 ?_
      refine r_goto (pc := 50) (tgt := 54) dX4_countSame_50 rfl ?_
      refine r_sub [1, 2, 3, 0] rfl ?_
      exact wX4_countSame_b54 hq4 h
def fX4_countSame_l4  (σ : Shp) (R : Nat → Nat → Option Nat) (t : Nat) : Nat → (Nat → Nat → Int32) → (Nat → Nat → Int64) → (Int32) → (Int32) → Option ((Nat → Nat → Int32) × (Nat → Nat → Int64) × (Int32))
  | 0, _, _, _, _ => none
  | n + 1, I, J, x2, x3 =>
    if (9 : Int32) ≤ x3 then
      if x2 = 0 ∨ x2 = 1 then
      some (I, J, x2)
      else none
    else
      if kdx σ t = 5 then
      ((R t 1) : Option Nat).bind fun a3 =>
      if kdx σ a3 = 28 then
      if ¬ (x3 < 0 ∨ lnx σ a3 ≤ Int32.toNatClampNeg x3) then
      ((R a3 (Int32.toNatClampNeg x3)) : Option Nat).bind fun a6 =>
      if kdx σ a6 = 20 then
      if ¬ ((4 : Int32) < 0 ∨ lnx σ a6 ≤ Int32.toNatClampNeg (4 : Int32)) then
      if (I a6 (Int32.toNatClampNeg (4 : Int32))) = 0 then
        fX4_countSame_b26 (fX4_countSame_l4 σ R t n) σ R t I J x2 x3 (1 : Int32)
      else
        fX4_countSame_b26 (fX4_countSame_l4 σ R t n) σ R t I J x2 x3 (0 : Int32)
      else none
      else none
      else none
      else none
      else none
theorem wX4_countSame_l4 {G : Gx} {l : Launch} {σ : Shp} {D : Nat → Nat → UInt64} {R : Nat → Nat → Option Nat} {t : Nat} {I9 : Nat → Nat → Int32} {J9 : Nat → Nat → Int64} {r9 : Int32} : ∀ (n : Nat) (I : Nat → Nat → Int32) (J : Nat → Nat → Int64) (x2 : Int32) (x3 : Int32), fX4_countSame_l4 σ R t n I J x2 x3 = some (I9, J9, r9) → WX4_countSame G l σ (σ, I9, J9, D, R) (some (vI r9)) (σ, I, J, D, R) 4 [(0, vR (some t)), (2, vI x2), (3, vI x3)] [] := by
  intro n
  induction n with
  | zero =>
    intro I J x2 x3 h
    have h : none = some _ := h
    cases h
  | succ n ih =>
    intro I J x2 x3 h
    rw [fX4_countSame_l4] at h
    refine r_iload_n (pc := 4) dX4_countSame_4 rfl 2 rfl ?_
    refine r_bipush (pc := 5) dX4_countSame_5 kc_bipush_9 ?_
    refine r_icmp_ge (pc := 7) (tgt := 121) dX4_countSame_7 rfl (fun c => ?_) (fun c => ?_)
    · have h := it h c
      refine r_iload_n (pc := 121) dX4_countSame_121 rfl 1 rfl ?_
      obtain ⟨g1, h⟩ := gd h
      cases h
      exact r_zret dX4_countSame_122 g1
    · have h := ie h c
      refine r_aload_n (pc := 10) dX4_countSame_10 rfl 0 rfl ?_
      obtain ⟨g2, h⟩ := gd h
      obtain ⟨a3, ha3, h⟩ := ob h
      refine r_getS (pc := 11) dX4_countSame_11 fgX4_20 rfl g2 ha3 ?_
      refine r_iload_n (pc := 14) dX4_countSame_14 rfl 2 rfl ?_
      obtain ⟨g4, h⟩ := gd h
      obtain ⟨g5, h⟩ := gd h
      refine r_aaload (pc := 15) dX4_countSame_15 g4 (by decide) g5 ?_
      obtain ⟨a6, ha6, h⟩ := ob h
      refine r_ref0 ha6 ?_
      refine r_iconst (pc := 16) dX4_countSame_16 kc_iconst_4 ?_
      obtain ⟨g7, h⟩ := gd h
      obtain ⟨g8, h⟩ := gd h
      refine r_iaload (pc := 17) dX4_countSame_17 g7 g8 ?_
      refine r_ifne (pc := 18) (tgt := 25) dX4_countSame_18 rfl (fun c => ?_) (fun c => ?_)
      · have h := ie h c
        refine r_iconst (pc := 25) dX4_countSame_25 kc_iconst_0 ?_
        refine r_sub [0, 1, 2] rfl ?_
        exact wX4_countSame_b26 ih h
      · have h := it h c
        refine r_iconst (pc := 21) dX4_countSame_21 kc_iconst_1 ?_
        refine r_goto (pc := 22) (tgt := 26) dX4_countSame_22 rfl ?_
        refine r_sub [0, 1, 2] rfl ?_
        exact wX4_countSame_b26 ih h
def fX4_countSame (σ : Shp) (I : Nat → Nat → Int32) (J : Nat → Nat → Int64) (R : Nat → Nat → Option Nat) (t : Nat) (x1 : Int32) : Option ((Nat → Nat → Int32) × (Nat → Nat → Int64) × (Int32)) :=
  fX4_countSame_l4 σ R t FUx I J (0 : Int32) x1
theorem kX4_countSame {G : Gx} {l : Launch} {σ : Shp} {I : Nat → Nat → Int32} {J : Nat → Nat → Int64} {D : Nat → Nat → UInt64} {R : Nat → Nat → Option Nat} {t : Nat} {x1 : Int32} {I9 : Nat → Nat → Int32} {J9 : Nat → Nat → Int64} {r9 : Int32} (h : fX4_countSame σ I J R t x1 = some (I9, J9, r9)) : Con G l yX4_countSame cX4_countSame 6 (some .boolean) 0 0 [vR (some t), vI x1] (σ, I, J, D, R) (σ, I9, J9, D, R) (some (vI r9)) := by
  unfold fX4_countSame at h
  refine Con.mk (by decide +kernel) rfl (Nat.le_of_ble_eq_true rfl) ?_
  show WX4_countSame G l σ (σ, I9, J9, D, R) (some (vI r9)) (σ, I, J, D, R) 0 _ []
  refine r_iconst (pc := 0) dX4_countSame_0 kc_iconst_0 ?_
  refine r_istore_n (pc := 1) (L' := [(2, vI (0 : Int32)), (0, vR (some t)), (1, vI x1)]) dX4_countSame_1 rfl (by decide) rfl ?_
  refine r_iload_n (pc := 2) dX4_countSame_2 rfl 2 rfl ?_
  refine r_istore_n (pc := 3) (L' := [(3, vI x1), (2, vI (0 : Int32)), (0, vR (some t)), (1, vI x1)]) dX4_countSame_3 rfl (by decide) rfl ?_
  refine r_sub [2, 1, 0] rfl ?_
  exact wX4_countSame_l4 _ _ _ _ _ h
abbrev WX4_sendTo (G : Gx) (l : Launch) (σ0 : Shp) (X1 : Stt) (rv : Option SV) : Stt → Nat → List (Nat × SV) → List SV → Prop := Wm G l yX4_sendTo cX4_sendTo 4 none (fun _ => True) (rmx 0 0 σ0 X1.1) σ0 (Qmx G σ0 X1 rv)
def fX4_sendTo (σ : Shp) (I : Nat → Nat → Int32) (R : Nat → Nat → Option Nat) (t : Nat) (x1 : Int32) (x2 : Int32) (x3 : Int32) : Option ((Nat → Nat → Int32)) :=
  if kdx σ t = 5 then
  ((R t 1) : Option Nat).bind fun a2 =>
  if kdx σ a2 = 28 then
  if ¬ (x1 < 0 ∨ lnx σ a2 ≤ Int32.toNatClampNeg x1) then
  ((R a2 (Int32.toNatClampNeg x1)) : Option Nat).bind fun a5 =>
  if kdx σ a5 = 20 then
  if ¬ ((0 : Int32) < 0 ∨ lnx σ a5 ≤ Int32.toNatClampNeg (0 : Int32)) then
  let I8 := u2 I a5 (Int32.toNatClampNeg (0 : Int32)) x2
  if ¬ ((1 : Int32) < 0 ∨ lnx σ a5 ≤ Int32.toNatClampNeg (1 : Int32)) then
  let I10 := u2 I8 a5 (Int32.toNatClampNeg (1 : Int32)) x3
  if ¬ ((2 : Int32) < 0 ∨ lnx σ a5 ≤ Int32.toNatClampNeg (2 : Int32)) then
  let I12 := u2 I10 a5 (Int32.toNatClampNeg (2 : Int32)) (0 : Int32)
  if ¬ ((3 : Int32) < 0 ∨ lnx σ a5 ≤ Int32.toNatClampNeg (3 : Int32)) then
  let I14 := u2 I12 a5 (Int32.toNatClampNeg (3 : Int32)) (0 : Int32)
  some I14
  else none
  else none
  else none
  else none
  else none
  else none
  else none
  else none
theorem kX4_sendTo {G : Gx} {l : Launch} {σ : Shp} {I : Nat → Nat → Int32} {J : Nat → Nat → Int64} {D : Nat → Nat → UInt64} {R : Nat → Nat → Option Nat} {t : Nat} {x1 : Int32} {x2 : Int32} {x3 : Int32} {I9 : Nat → Nat → Int32} (h : fX4_sendTo σ I R t x1 x2 x3 = some I9) : Con G l yX4_sendTo cX4_sendTo 4 none 0 0 [vR (some t), vI x1, vI x2, vI x3] (σ, I, J, D, R) (σ, I9, J, D, R) none := by
  unfold fX4_sendTo at h
  refine Con.mk (by decide +kernel) rfl (Nat.le_of_ble_eq_true rfl) ?_
  show WX4_sendTo G l σ (σ, I9, J, D, R) none (σ, I, J, D, R) 0 _ []
  refine r_aload_n (pc := 0) dX4_sendTo_0 rfl 0 rfl ?_
  obtain ⟨g1, h⟩ := gd h
  obtain ⟨a2, ha2, h⟩ := ob h
  refine r_getS (pc := 1) dX4_sendTo_1 fgX4_20 rfl g1 ha2 ?_
  refine r_iload_n (pc := 4) dX4_sendTo_4 rfl 1 rfl ?_
  obtain ⟨g3, h⟩ := gd h
  obtain ⟨g4, h⟩ := gd h
  refine r_aaload (pc := 5) dX4_sendTo_5 g3 (by decide) g4 ?_
  obtain ⟨a5, ha5, h⟩ := ob h
  refine r_ref0 ha5 ?_
  refine r_iconst (pc := 6) dX4_sendTo_6 kc_iconst_0 ?_
  refine r_iload_n (pc := 7) dX4_sendTo_7 rfl 2 rfl ?_
  obtain ⟨g6, h⟩ := gd h
  obtain ⟨g7, h⟩ := gd h
  refine r_iastore (pc := 8) dX4_sendTo_8 g6 g7 ?_
  refine r_aload_n (pc := 9) dX4_sendTo_9 rfl 0 rfl ?_
  refine r_getS (pc := 10) dX4_sendTo_10 fgX4_20 rfl g1 ha2 ?_
  refine r_iload_n (pc := 13) dX4_sendTo_13 rfl 1 rfl ?_
  refine r_aaload (pc := 14) dX4_sendTo_14 g3 (by decide) g4 ?_
  refine r_ref0 ha5 ?_
  refine r_iconst (pc := 15) dX4_sendTo_15 kc_iconst_1 ?_
  refine r_iload_n (pc := 16) dX4_sendTo_16 rfl 3 rfl ?_
  obtain ⟨g9, h⟩ := gd h
  refine r_iastore (pc := 17) dX4_sendTo_17 g6 g9 ?_
  refine r_aload_n (pc := 18) dX4_sendTo_18 rfl 0 rfl ?_
  refine r_getS (pc := 19) dX4_sendTo_19 fgX4_20 rfl g1 ha2 ?_
  refine r_iload_n (pc := 22) dX4_sendTo_22 rfl 1 rfl ?_
  refine r_aaload (pc := 23) dX4_sendTo_23 g3 (by decide) g4 ?_
  refine r_ref0 ha5 ?_
  refine r_iconst (pc := 24) dX4_sendTo_24 kc_iconst_2 ?_
  refine r_iconst (pc := 25) dX4_sendTo_25 kc_iconst_0 ?_
  obtain ⟨g11, h⟩ := gd h
  refine r_iastore (pc := 26) dX4_sendTo_26 g6 g11 ?_
  refine r_aload_n (pc := 27) dX4_sendTo_27 rfl 0 rfl ?_
  refine r_getS (pc := 28) dX4_sendTo_28 fgX4_20 rfl g1 ha2 ?_
  refine r_iload_n (pc := 31) dX4_sendTo_31 rfl 1 rfl ?_
  refine r_aaload (pc := 32) dX4_sendTo_32 g3 (by decide) g4 ?_
  refine r_ref0 ha5 ?_
  refine r_iconst (pc := 33) dX4_sendTo_33 kc_iconst_3 ?_
  refine r_iconst (pc := 34) dX4_sendTo_34 kc_iconst_0 ?_
  obtain ⟨g13, h⟩ := gd h
  refine r_iastore (pc := 35) dX4_sendTo_35 g6 g13 ?_
  cases h
  exact r_vret dX4_sendTo_36
abbrev WX4_judge (G : Gx) (l : Launch) (σ0 : Shp) (X1 : Stt) (rv : Option SV) : Stt → Nat → List (Nat × SV) → List SV → Prop := Wm G l yX4_judge cX4_judge 4 none (fun _ => True) (rmx 1 23 σ0 X1.1) σ0 (Qmx G σ0 X1 rv)
def fX4_judge_b83  (σ : Shp) (J : Nat → Nat → Int64) (R : Nat → Nat → Option Nat) (t : Nat) (I : Nat → Nat → Int32) (x1 : Int32) (x3 : Int32) : Option ((Nat → Nat → Int32)) :=
  if x3 = 0 then
    if kdx σ t = 5 then
    ((R t 1) : Option Nat).bind fun a13 =>
    if kdx σ a13 = 28 then
    if ¬ (x1 < 0 ∨ lnx σ a13 ≤ Int32.toNatClampNeg x1) then
    ((R a13 (Int32.toNatClampNeg x1)) : Option Nat).bind fun a16 =>
    if kdx σ a16 = 20 then
    if ¬ ((3 : Int32) < 0 ∨ lnx σ a16 ≤ Int32.toNatClampNeg (3 : Int32)) then
    if (I a16 (Int32.toNatClampNeg (3 : Int32))) < (5 : Int32) then
      some I
    else
      (fX4_sendTo σ I R t x1 (1 : Int32) (0 : Int32)).bind fun I19 =>
      some I19
    else none
    else none
    else none
    else none
    else none
  else
    some I
theorem wX4_judge_b83 {G : Gx} {l : Launch} {σ : Shp} {I : Nat → Nat → Int32} {J : Nat → Nat → Int64} {D : Nat → Nat → UInt64} {R : Nat → Nat → Option Nat} {t : Nat} {I9 : Nat → Nat → Int32} {x1 : Int32} {x3 : Int32} (h : fX4_judge_b83 σ J R t I x1 x3 = some I9) : WX4_judge G l σ (σ, I9, J, D, R) none (σ, I, J, D, R) 83 [(0, vR (some t)), (1, vI x1), (3, vI x3)] [] := by
  unfold fX4_judge_b83 at h
  refine r_iload_n (pc := 83) dX4_judge_83 rfl 2 rfl ?_
  refine r_ifne (pc := 84) (tgt := 106) dX4_judge_84 rfl (fun c => ?_) (fun c => ?_)
  · have h := ie h c
    cases h
    exact r_vret dX4_judge_106
  · have h := it h c
    refine r_aload_n (pc := 87) dX4_judge_87 rfl 0 rfl ?_
    obtain ⟨g12, h⟩ := gd h
    obtain ⟨a13, ha13, h⟩ := ob h
    refine r_getS (pc := 88) dX4_judge_88 fgX4_20 rfl g12 ha13 ?_
    refine r_iload_n (pc := 91) dX4_judge_91 rfl 1 rfl ?_
    obtain ⟨g14, h⟩ := gd h
    obtain ⟨g15, h⟩ := gd h
    refine r_aaload (pc := 92) dX4_judge_92 g14 (by decide) g15 ?_
    obtain ⟨a16, ha16, h⟩ := ob h
    refine r_ref0 ha16 ?_
    refine r_iconst (pc := 93) dX4_judge_93 kc_iconst_3 ?_
    obtain ⟨g17, h⟩ := gd h
    obtain ⟨g18, h⟩ := gd h
    refine r_iaload (pc := 94) dX4_judge_94 g17 g18 ?_
    refine r_iconst (pc := 95) dX4_judge_95 kc_iconst_5 ?_
    refine r_icmp_lt (pc := 96) (tgt := 106) dX4_judge_96 rfl (fun c => ?_) (fun c => ?_)
    · have h := it h c
      cases h
      exact r_vret dX4_judge_106
    · have h := ie h c
      refine r_aload_n (pc := 99) dX4_judge_99 rfl 0 rfl ?_
      refine r_iload_n (pc := 100) dX4_judge_100 rfl 1 rfl ?_
      refine r_iconst (pc := 101) dX4_judge_101 kc_iconst_1 ?_
      refine r_iconst (pc := 102) dX4_judge_102 kc_iconst_0 ?_
      obtain ⟨I19, hc20, h⟩ := ob h
      refine r_callV0 (pc := 103) (av := [vI x1, vI (1 : Int32), vI (0 : Int32)]) (S := []) dX4_judge_103 (kX4_sendTo hc20) g12 rfl mkX4_135 mwX4_sendTo rfl ⟨Nat.le_of_ble_eq_true rfl, Nat.le_of_ble_eq_true rfl⟩ (Nat.le_of_ble_eq_true rfl) ⟨Nat.le_refl _, Nat.le_refl _⟩ (fun b => b) ?_
      cases h
      exact r_vret dX4_judge_106
def fX4_judge_b57  (σ : Shp) (J : Nat → Nat → Int64) (R : Nat → Nat → Option Nat) (t : Nat) (I : Nat → Nat → Int32) (x1 : Int32) (x3 : Int32) : Option ((Nat → Nat → Int32)) :=
  if x3 = 0 then
    fX4_judge_b83 σ J R t I x1 x3
  else
    if kdx σ t = 5 then
    ((R t 1) : Option Nat).bind fun a22 =>
    if kdx σ a22 = 28 then
    if ¬ (x1 < 0 ∨ lnx σ a22 ≤ Int32.toNatClampNeg x1) then
    ((R a22 (Int32.toNatClampNeg x1)) : Option Nat).bind fun a25 =>
    if kdx σ a25 = 20 then
    if ¬ ((2 : Int32) < 0 ∨ lnx σ a25 ≤ Int32.toNatClampNeg (2 : Int32)) then
    if (I a25 (Int32.toNatClampNeg (2 : Int32))) < (3 : Int32) then
      fX4_judge_b83 σ J R t I x1 x3
    else
      (fX4_sendTo σ I R t x1 (0 : Int32) (1 : Int32)).bind fun I28 =>
      some I28
    else none
    else none
    else none
    else none
    else none
theorem wX4_judge_b57 {G : Gx} {l : Launch} {σ : Shp} {I : Nat → Nat → Int32} {J : Nat → Nat → Int64} {D : Nat → Nat → UInt64} {R : Nat → Nat → Option Nat} {t : Nat} {I9 : Nat → Nat → Int32} {x1 : Int32} {x3 : Int32} (h : fX4_judge_b57 σ J R t I x1 x3 = some I9) : WX4_judge G l σ (σ, I9, J, D, R) none (σ, I, J, D, R) 57 [(0, vR (some t)), (1, vI x1), (3, vI x3)] [] := by
  unfold fX4_judge_b57 at h
  refine r_iload_n (pc := 57) dX4_judge_57 rfl 2 rfl ?_
  refine r_if_eq (pc := 58) (tgt := 83) dX4_judge_58 rfl (fun c => ?_) (fun c => ?_)
  · have h := it h c
    refine r_sub [0, 1, 2] rfl ?_
    exact wX4_judge_b83 h
  · have h := ie h c
    refine r_aload_n (pc := 61) dX4_judge_61 rfl 0 rfl ?_
    obtain ⟨g21, h⟩ := gd h
    obtain ⟨a22, ha22, h⟩ := ob h
    refine r_getS (pc := 62) dX4_judge_62 fgX4_20 rfl g21 ha22 ?_
    refine r_iload_n (pc := 65) dX4_judge_65 rfl 1 rfl ?_
    obtain ⟨g23, h⟩ := gd h
    obtain ⟨g24, h⟩ := gd h
    refine r_aaload (pc := 66) dX4_judge_66 g23 (by decide) g24 ?_
    obtain ⟨a25, ha25, h⟩ := ob h
    refine r_ref0 ha25 ?_
    refine r_iconst (pc := 67) dX4_judge_67 kc_iconst_2 ?_
    obtain ⟨g26, h⟩ := gd h
    obtain ⟨g27, h⟩ := gd h
    refine r_iaload (pc := 68) dX4_judge_68 g26 g27 ?_
    refine r_iconst (pc := 69) dX4_judge_69 kc_iconst_3 ?_
    refine r_icmp_lt (pc := 70) (tgt := 83) dX4_judge_70 rfl (fun c => ?_) (fun c => ?_)
    · have h := it h c
      refine r_sub [0, 1, 2] rfl ?_
      exact wX4_judge_b83 h
    · have h := ie h c
      refine r_aload_n (pc := 73) dX4_judge_73 rfl 0 rfl ?_
      refine r_iload_n (pc := 74) dX4_judge_74 rfl 1 rfl ?_
      refine r_iconst (pc := 75) dX4_judge_75 kc_iconst_0 ?_
      refine r_iconst (pc := 76) dX4_judge_76 kc_iconst_1 ?_
      obtain ⟨I28, hc29, h⟩ := ob h
      refine r_callV0 (pc := 77) (av := [vI x1, vI (0 : Int32), vI (1 : Int32)]) (S := []) dX4_judge_77 (kX4_sendTo hc29) g21 rfl mkX4_135 mwX4_sendTo rfl ⟨Nat.le_of_ble_eq_true rfl, Nat.le_of_ble_eq_true rfl⟩ (Nat.le_of_ble_eq_true rfl) ⟨Nat.le_refl _, Nat.le_refl _⟩ (fun b => b) ?_
      refine r_goto (pc := 80) (tgt := 106) dX4_judge_80 rfl ?_
      cases h
      exact r_vret dX4_judge_106
def fX4_judge_b17  (σ : Shp) (J : Nat → Nat → Int64) (R : Nat → Nat → Option Nat) (t : Nat) (I : Nat → Nat → Int32) (x1 : Int32) (x2 : Int32) (s0 : Int32) : Option ((Nat → Nat → Int32)) :=
  if kdx σ t = 5 then
  ((R t 2) : Option Nat).bind fun a9 =>
  if kdx σ a9 = 21 then
  if ¬ (x1 < 0 ∨ lnx σ a9 ≤ Int32.toNatClampNeg x1) then
  if (fX11_isNumber (J a9 (Int32.toNatClampNeg x1))) = 0 then
    fX4_judge_b57 σ J R t I x1 s0
  else
    ((R t 1) : Option Nat).bind fun a30 =>
    if kdx σ a30 = 28 then
    if ¬ (x1 < 0 ∨ lnx σ a30 ≤ Int32.toNatClampNeg x1) then
    ((R a30 (Int32.toNatClampNeg x1)) : Option Nat).bind fun a33 =>
    if kdx σ a33 = 20 then
    if ¬ ((4 : Int32) < 0 ∨ lnx σ a33 ≤ Int32.toNatClampNeg (4 : Int32)) then
    if (I a33 (Int32.toNatClampNeg (4 : Int32))) < (8 : Int32) then
      fX4_judge_b57 σ J R t I x1 s0
    else
      if x2 = 0 then
        fX4_judge_b57 σ J R t I x1 s0
      else
        (fX4_sendTo σ I R t x1 (0 : Int32) (2 : Int32)).bind fun I36 =>
        some I36
    else none
    else none
    else none
    else none
  else none
  else none
  else none
theorem wX4_judge_b17 {G : Gx} {l : Launch} {σ : Shp} {I : Nat → Nat → Int32} {J : Nat → Nat → Int64} {D : Nat → Nat → UInt64} {R : Nat → Nat → Option Nat} {t : Nat} {I9 : Nat → Nat → Int32} {x1 : Int32} {x2 : Int32} {s0 : Int32} (h : fX4_judge_b17 σ J R t I x1 x2 s0 = some I9) : WX4_judge G l σ (σ, I9, J, D, R) none (σ, I, J, D, R) 17 [(0, vR (some t)), (1, vI x1), (2, vI x2)] [vI s0] := by
  unfold fX4_judge_b17 at h
  refine r_istore_n (pc := 17) (L' := [(3, vI s0), (0, vR (some t)), (1, vI x1), (2, vI x2)]) dX4_judge_17 rfl (by decide) rfl ?_
  refine r_aload_n (pc := 18) dX4_judge_18 rfl 1 rfl ?_
  obtain ⟨g8, h⟩ := gd h
  obtain ⟨a9, ha9, h⟩ := ob h
  refine r_getS (pc := 19) dX4_judge_19 fgX4_23 rfl g8 ha9 ?_
  refine r_iload_n (pc := 22) dX4_judge_22 rfl 2 rfl ?_
  obtain ⟨g10, h⟩ := gd h
  obtain ⟨g11, h⟩ := gd h
  refine r_laload (pc := 23) dX4_judge_23 g10 g11 ?_
  refine r_callSN1 (pc := 24) (av := [vL (J a9 (Int32.toNatClampNeg x1))]) (S := []) dX4_judge_24 (kX11_isNumber rfl) nkX4_70 mwX11_isNumber rfl ⟨Nat.le_of_ble_eq_true rfl, Nat.le_of_ble_eq_true rfl⟩ (Nat.le_of_ble_eq_true rfl) ⟨Nat.le_refl _, Nat.le_refl _⟩ (fun b => b) ?_
  refine r_if_eq (pc := 27) (tgt := 57) dX4_judge_27 rfl (fun c => ?_) (fun c => ?_)
  · have h := it h c
    refine r_sub [1, 2, 0] rfl ?_
    exact wX4_judge_b57 h
  · have h := ie h c
    refine r_aload_n (pc := 30) dX4_judge_30 rfl 1 rfl ?_
    obtain ⟨a30, ha30, h⟩ := ob h
    refine r_getS (pc := 31) dX4_judge_31 fgX4_20 rfl g8 ha30 ?_
    refine r_iload_n (pc := 34) dX4_judge_34 rfl 2 rfl ?_
    obtain ⟨g31, h⟩ := gd h
    obtain ⟨g32, h⟩ := gd h
    refine r_aaload (pc := 35) dX4_judge_35 g31 (by decide) g32 ?_
    obtain ⟨a33, ha33, h⟩ := ob h
    refine r_ref0 ha33 ?_
    refine r_iconst (pc := 36) dX4_judge_36 kc_iconst_4 ?_
    obtain ⟨g34, h⟩ := gd h
    obtain ⟨g35, h⟩ := gd h
    refine r_iaload (pc := 37) dX4_judge_37 g34 g35 ?_
    refine r_bipush (pc := 38) dX4_judge_38 kc_bipush_8 ?_
    refine r_icmp_lt (pc := 40) (tgt := 57) dX4_judge_40 rfl (fun c => ?_) (fun c => ?_)
    · have h := it h c
      refine r_sub [1, 2, 0] rfl ?_
      exact wX4_judge_b57 h
    · have h := ie h c
      refine r_iload_n (pc := 43) dX4_judge_43 rfl 3 rfl ?_
      refine r_if_eq (pc := 44) (tgt := 57) dX4_judge_44 rfl (fun c => ?_) (fun c => ?_)
      · have h := it h c
        refine r_sub [1, 2, 0] rfl ?_
        exact wX4_judge_b57 h
      · have h := ie h c
        refine r_aload_n (pc := 47) dX4_judge_47 rfl 1 rfl ?_
        refine r_iload_n (pc := 48) dX4_judge_48 rfl 2 rfl ?_
        refine r_iconst (pc := 49) dX4_judge_49 kc_iconst_0 ?_
        refine r_iconst (pc := 50) dX4_judge_50 kc_iconst_2 ?_
        obtain ⟨I36, hc37, h⟩ := ob h
        refine r_callV0 (pc := 51) (av := [vI x1, vI (0 : Int32), vI (2 : Int32)]) (S := []) dX4_judge_51 (kX4_sendTo hc37) g8 rfl mkX4_135 mwX4_sendTo rfl ⟨Nat.le_of_ble_eq_true rfl, Nat.le_of_ble_eq_true rfl⟩ (Nat.le_of_ble_eq_true rfl) ⟨Nat.le_refl _, Nat.le_refl _⟩ (fun b => b) ?_
        refine r_goto (pc := 54) (tgt := 106) dX4_judge_54 rfl ?_
        cases h
        exact r_vret dX4_judge_106
def fX4_judge (σ : Shp) (I : Nat → Nat → Int32) (J : Nat → Nat → Int64) (R : Nat → Nat → Option Nat) (t : Nat) (x1 : Int32) (x2 : Int32) : Option ((Nat → Nat → Int32)) :=
  if kdx σ t = 5 then
  ((R t 1) : Option Nat).bind fun a2 =>
  if kdx σ a2 = 28 then
  if ¬ (x1 < 0 ∨ lnx σ a2 ≤ Int32.toNatClampNeg x1) then
  ((R a2 (Int32.toNatClampNeg x1)) : Option Nat).bind fun a5 =>
  if kdx σ a5 = 20 then
  if ¬ ((0 : Int32) < 0 ∨ lnx σ a5 ≤ Int32.toNatClampNeg (0 : Int32)) then
  if (I a5 (Int32.toNatClampNeg (0 : Int32))) = (1 : Int32) then
    fX4_judge_b17 σ J R t I x1 x2 (1 : Int32)
  else
    fX4_judge_b17 σ J R t I x1 x2 (0 : Int32)
  else none
  else none
  else none
  else none
  else none
theorem kX4_judge {G : Gx} {l : Launch} {σ : Shp} {I : Nat → Nat → Int32} {J : Nat → Nat → Int64} {D : Nat → Nat → UInt64} {R : Nat → Nat → Option Nat} {t : Nat} {x1 : Int32} {x2 : Int32} {I9 : Nat → Nat → Int32} (h : fX4_judge σ I J R t x1 x2 = some I9) : Con G l yX4_judge cX4_judge 4 none 1 23 [vR (some t), vI x1, vI x2] (σ, I, J, D, R) (σ, I9, J, D, R) none := by
  unfold fX4_judge at h
  refine Con.mk (by decide +kernel) rfl (Nat.le_of_ble_eq_true rfl) ?_
  show WX4_judge G l σ (σ, I9, J, D, R) none (σ, I, J, D, R) 0 _ []
  refine r_aload_n (pc := 0) dX4_judge_0 rfl 0 rfl ?_
  obtain ⟨g1, h⟩ := gd h
  obtain ⟨a2, ha2, h⟩ := ob h
  refine r_getS (pc := 1) dX4_judge_1 fgX4_20 rfl g1 ha2 ?_
  refine r_iload_n (pc := 4) dX4_judge_4 rfl 1 rfl ?_
  obtain ⟨g3, h⟩ := gd h
  obtain ⟨g4, h⟩ := gd h
  refine r_aaload (pc := 5) dX4_judge_5 g3 (by decide) g4 ?_
  obtain ⟨a5, ha5, h⟩ := ob h
  refine r_ref0 ha5 ?_
  refine r_iconst (pc := 6) dX4_judge_6 kc_iconst_0 ?_
  obtain ⟨g6, h⟩ := gd h
  obtain ⟨g7, h⟩ := gd h
  refine r_iaload (pc := 7) dX4_judge_7 g6 g7 ?_
  refine r_iconst (pc := 8) dX4_judge_8 kc_iconst_1 ?_
  refine r_icmp_ne (pc := 9) (tgt := 16) dX4_judge_9 rfl (fun c => ?_) (fun c => ?_)
  · have h := ie h c
    refine r_iconst (pc := 16) dX4_judge_16 kc_iconst_0 ?_
    refine r_sub [0, 1, 2] rfl ?_
    exact wX4_judge_b17 h
  · have h := it h c
    refine r_iconst (pc := 12) dX4_judge_12 kc_iconst_1 ?_
    refine r_goto (pc := 13) (tgt := 17) dX4_judge_13 rfl ?_
    refine r_sub [0, 1, 2] rfl ?_
    exact wX4_judge_b17 h
abbrev WX4_manyReading (G : Gx) (l : Launch) (σ0 : Shp) (X1 : Stt) (rv : Option SV) : Stt → Nat → List (Nat × SV) → List SV → Prop := Wm G l yX4_manyReading cX4_manyReading 4 (some .int) (fun _ => True) (rmx 1 21 σ0 X1.1) σ0 (Qmx G σ0 X1 rv)
def fX4_manyReading_l4  (σ : Shp) (J : Nat → Nat → Int64) (R : Nat → Nat → Option Nat) (t : Nat) : Nat → (Int32) → (Int32) → Option ((Int32))
  | 0, _, _ => none
  | n + 1, x2, x3 =>
    if (9 : Int32) ≤ x3 then
      some x2
    else
      if kdx σ t = 5 then
      ((R t 2) : Option Nat).bind fun a2 =>
      if kdx σ a2 = 21 then
      if ¬ (x3 < 0 ∨ lnx σ a2 ≤ Int32.toNatClampNeg x3) then
      if (fX11_isNumber (J a2 (Int32.toNatClampNeg x3))) = 0 then
        let v5 := x3 + (3 : Int32)
        fX4_manyReading_l4 σ J R t n x2 v5
      else
        let v6 := x2 + (1 : Int32)
        let v7 := x3 + (3 : Int32)
        fX4_manyReading_l4 σ J R t n v6 v7
      else none
      else none
      else none
theorem wX4_manyReading_l4 {G : Gx} {l : Launch} {σ : Shp} {I : Nat → Nat → Int32} {J : Nat → Nat → Int64} {D : Nat → Nat → UInt64} {R : Nat → Nat → Option Nat} {t : Nat} {r9 : Int32} : ∀ (n : Nat) (x2 : Int32) (x3 : Int32), fX4_manyReading_l4 σ J R t n x2 x3 = some r9 → WX4_manyReading G l σ (σ, I, J, D, R) (some (vI r9)) (σ, I, J, D, R) 4 [(0, vR (some t)), (2, vI x2), (3, vI x3)] [] := by
  intro n
  induction n with
  | zero =>
    intro x2 x3 h
    have h : none = some _ := h
    cases h
  | succ n ih =>
    intro x2 x3 h
    rw [fX4_manyReading_l4] at h
    refine r_iload_n (pc := 4) dX4_manyReading_4 rfl 2 rfl ?_
    refine r_bipush (pc := 5) dX4_manyReading_5 kc_bipush_9 ?_
    refine r_icmp_ge (pc := 7) (tgt := 31) dX4_manyReading_7 rfl (fun c => ?_) (fun c => ?_)
    · have h := it h c
      refine r_iload_n (pc := 31) dX4_manyReading_31 rfl 1 rfl ?_
      cases h
      exact r_iret dX4_manyReading_32
    · have h := ie h c
      refine r_aload_n (pc := 10) dX4_manyReading_10 rfl 0 rfl ?_
      obtain ⟨g1, h⟩ := gd h
      obtain ⟨a2, ha2, h⟩ := ob h
      refine r_getS (pc := 11) dX4_manyReading_11 fgX4_23 rfl g1 ha2 ?_
      refine r_iload_n (pc := 14) dX4_manyReading_14 rfl 2 rfl ?_
      obtain ⟨g3, h⟩ := gd h
      obtain ⟨g4, h⟩ := gd h
      refine r_laload (pc := 15) dX4_manyReading_15 g3 g4 ?_
      refine r_callSN1 (pc := 16) (av := [vL (J a2 (Int32.toNatClampNeg x3))]) (S := []) dX4_manyReading_16 (kX11_isNumber rfl) nkX4_70 mwX11_isNumber rfl ⟨Nat.le_of_ble_eq_true rfl, Nat.le_of_ble_eq_true rfl⟩ (Nat.le_of_ble_eq_true rfl) ⟨Nat.le_refl _, Nat.le_refl _⟩ (fun b => b) ?_
      refine r_if_eq (pc := 19) (tgt := 25) dX4_manyReading_19 rfl (fun c => ?_) (fun c => ?_)
      · have h := it h c
        refine r_iinc (pc := 25) (v := (x3 + (3 : Int32))) (L' := [(3, vI (x3 + (3 : Int32))), (0, vR (some t)), (2, vI x2)]) dX4_manyReading_25 2 rfl (kc_inc_3 _) (by decide) rfl ?_
        refine r_goto (pc := 28) (tgt := 4) dX4_manyReading_28 rfl ?_
        refine r_sub [1, 2, 0] rfl ?_
        exact ih _ _ h
      · have h := ie h c
        refine r_iinc (pc := 22) (v := (x2 + (1 : Int32))) (L' := [(2, vI (x2 + (1 : Int32))), (0, vR (some t)), (3, vI x3)]) dX4_manyReading_22 1 rfl (kc_inc_1 _) (by decide) rfl ?_
        refine r_iinc (pc := 25) (v := (x3 + (3 : Int32))) (L' := [(3, vI (x3 + (3 : Int32))), (2, vI (x2 + (1 : Int32))), (0, vR (some t))]) dX4_manyReading_25 2 rfl (kc_inc_3 _) (by decide) rfl ?_
        refine r_goto (pc := 28) (tgt := 4) dX4_manyReading_28 rfl ?_
        refine r_sub [2, 1, 0] rfl ?_
        exact ih _ _ h
def fX4_manyReading (σ : Shp) (J : Nat → Nat → Int64) (R : Nat → Nat → Option Nat) (t : Nat) (x1 : Int32) : Option ((Int32)) :=
  fX4_manyReading_l4 σ J R t FUx (0 : Int32) x1
theorem kX4_manyReading {G : Gx} {l : Launch} {σ : Shp} {I : Nat → Nat → Int32} {J : Nat → Nat → Int64} {D : Nat → Nat → UInt64} {R : Nat → Nat → Option Nat} {t : Nat} {x1 : Int32} {r9 : Int32} (h : fX4_manyReading σ J R t x1 = some r9) : Con G l yX4_manyReading cX4_manyReading 4 (some .int) 1 21 [vR (some t), vI x1] (σ, I, J, D, R) (σ, I, J, D, R) (some (vI r9)) := by
  unfold fX4_manyReading at h
  refine Con.mk (by decide +kernel) rfl (Nat.le_of_ble_eq_true rfl) ?_
  show WX4_manyReading G l σ (σ, I, J, D, R) (some (vI r9)) (σ, I, J, D, R) 0 _ []
  refine r_iconst (pc := 0) dX4_manyReading_0 kc_iconst_0 ?_
  refine r_istore_n (pc := 1) (L' := [(2, vI (0 : Int32)), (0, vR (some t)), (1, vI x1)]) dX4_manyReading_1 rfl (by decide) rfl ?_
  refine r_iload_n (pc := 2) dX4_manyReading_2 rfl 2 rfl ?_
  refine r_istore_n (pc := 3) (L' := [(3, vI x1), (2, vI (0 : Int32)), (0, vR (some t)), (1, vI x1)]) dX4_manyReading_3 rfl (by decide) rfl ?_
  refine r_sub [2, 1, 0] rfl ?_
  exact wX4_manyReading_l4 _ _ _ h
abbrev WX11_orderKey (G : Gx) (l : Launch) (σ0 : Shp) (X1 : Stt) (rv : Option SV) : Stt → Nat → List (Nat × SV) → List SV → Prop := Wm G l yX11_orderKey cX11_orderKey 2 (some .long) (fun _ => True) (rmx 0 0 σ0 X1.1) σ0 (Qmx G σ0 X1 rv)
def fX11_orderKey  (x0 : Int64) : (Int64) :=
  (x0 ^^^ ((x0 >>> (Int32.toInt64 (63 : Int32) &&& 63)) &&& (9223372036854775807 : Int64)))
theorem kX11_orderKey {G : Gx} {l : Launch} {σ : Shp} {I : Nat → Nat → Int32} {J : Nat → Nat → Int64} {D : Nat → Nat → UInt64} {R : Nat → Nat → Option Nat} {x0 : Int64} {r9 : Int64} (h : fX11_orderKey x0 = r9) : Con G l yX11_orderKey cX11_orderKey 2 (some .long) 0 0 [vL x0] (σ, I, J, D, R) (σ, I, J, D, R) (some (vL r9)) := by
  unfold fX11_orderKey at h
  refine Con.mk (by decide +kernel) rfl (Nat.le_of_ble_eq_true rfl) ?_
  show WX11_orderKey G l σ (σ, I, J, D, R) (some (vL r9)) (σ, I, J, D, R) 0 _ []
  refine r_lload_n (pc := 0) dX11_orderKey_0 rfl 0 rfl ?_
  refine r_lload_n (pc := 1) dX11_orderKey_1 rfl 0 rfl ?_
  refine r_bipush (pc := 2) dX11_orderKey_2 kc_bipush_63 ?_
  refine r_lshr (pc := 4) dX11_orderKey_4 ?_
  refine r_ldc2 (pc := 5) dX11_orderKey_5 clX11_532 ?_
  refine r_land (pc := 8) dX11_orderKey_8 ?_
  refine r_lxor (pc := 9) dX11_orderKey_9 ?_
  subst h
  exact r_lret dX11_orderKey_10
abbrev WX11_sortByOrder (G : Gx) (l : Launch) (σ0 : Shp) (X1 : Stt) (rv : Option SV) : Stt → Nat → List (Nat × SV) → List SV → Prop := Wm G l yX11_sortByOrder cX11_sortByOrder 7 none (fun _ => True) (rmx 1 21 σ0 X1.1) σ0 (Qmx G σ0 X1 rv)
def fX11_sortByOrder_l22 (q9 : (Nat → Nat → Int64) → (Option Nat) → (Int32) → (Int32) → (Option ((Nat → Nat → Int64)))) (σ : Shp) : Nat → (Nat → Nat → Int64) → (Option Nat) → (Int32) → (Int32) → (Int64) → (Int32) → Option ((Nat → Nat → Int64))
  | 0, _, _, _, _, _, _ => none
  | n + 1, J, x0, x2, x3, x4, x6 =>
    if x6 ≤ 0 then
      (x0 : Option Nat).bind fun a8 =>
      if kdx σ a8 = 21 then
      if ¬ (x6 < 0 ∨ lnx σ a8 ≤ Int32.toNatClampNeg x6) then
      let J11 := u2 J a8 (Int32.toNatClampNeg x6) x4
      let v12 := x3 + (1 : Int32)
      q9 J11 x0 x2 v12
      else none
      else none
    else
      (x0 : Option Nat).bind fun a13 =>
      if kdx σ a13 = 21 then
      if ¬ ((x6 - (1 : Int32)) < 0 ∨ lnx σ a13 ≤ Int32.toNatClampNeg (x6 - (1 : Int32))) then
      if (fX11_orderKey (J a13 (Int32.toNatClampNeg (x6 - (1 : Int32))))) ≤ (fX11_orderKey x4) then
        if ¬ (x6 < 0 ∨ lnx σ a13 ≤ Int32.toNatClampNeg x6) then
        let J17 := u2 J a13 (Int32.toNatClampNeg x6) x4
        let v18 := x3 + (1 : Int32)
        q9 J17 x0 x2 v18
        else none
      else
        if ¬ (x6 < 0 ∨ lnx σ a13 ≤ Int32.toNatClampNeg x6) then
        let J20 := u2 J a13 (Int32.toNatClampNeg x6) (J a13 (Int32.toNatClampNeg (x6 - (1 : Int32))))
        let v21 := x6 + (-1 : Int32)
        fX11_sortByOrder_l22 q9 σ n J20 x0 x2 x3 x4 v21
        else none
      else none
      else none
theorem wX11_sortByOrder_l22 {G : Gx} {l : Launch} {σ : Shp} {I : Nat → Nat → Int32} {D : Nat → Nat → UInt64} {R : Nat → Nat → Option Nat} {J9 : Nat → Nat → Int64} {q9 : (Nat → Nat → Int64) → (Option Nat) → (Int32) → (Int32) → (Option ((Nat → Nat → Int64)))} (hq9 : ∀ (J : Nat → Nat → Int64) (x0 : Option Nat) (x2 : Int32) (x3 : Int32), q9 J x0 x2 x3 = some J9 → WX11_sortByOrder G l σ (σ, I, J9, D, R) none (σ, I, J, D, R) 9 [(0, vR x0), (2, vI x2), (3, vI x3)] []) : ∀ (n : Nat) (J : Nat → Nat → Int64) (x0 : Option Nat) (x2 : Int32) (x3 : Int32) (x4 : Int64) (x6 : Int32), fX11_sortByOrder_l22 q9 σ n J x0 x2 x3 x4 x6 = some J9 → WX11_sortByOrder G l σ (σ, I, J9, D, R) none (σ, I, J, D, R) 22 [(0, vR x0), (2, vI x2), (3, vI x3), (4, vL x4), (6, vI x6)] [] := by
  intro n
  induction n with
  | zero =>
    intro J x0 x2 x3 x4 x6 h
    have h : none = some _ := h
    cases h
  | succ n ih =>
    intro J x0 x2 x3 x4 x6 h
    rw [fX11_sortByOrder_l22] at h
    refine r_iload (pc := 22) dX11_sortByOrder_22 4 rfl ?_
    refine r_if_le (pc := 24) (tgt := 61) dX11_sortByOrder_24 rfl (fun c => ?_) (fun c => ?_)
    · have h := it h c
      refine r_aload_n (pc := 61) dX11_sortByOrder_61 rfl 0 rfl ?_
      refine r_iload (pc := 62) dX11_sortByOrder_62 4 rfl ?_
      refine r_lload (pc := 64) dX11_sortByOrder_64 3 rfl ?_
      obtain ⟨a8, ha8, h⟩ := ob h
      refine r_ref2 ha8 ?_
      obtain ⟨g9, h⟩ := gd h
      obtain ⟨g10, h⟩ := gd h
      refine r_lastore (pc := 66) dX11_sortByOrder_66 g9 g10 ?_
      refine r_iinc (pc := 67) (v := (x3 + (1 : Int32))) (L' := [(3, vI (x3 + (1 : Int32))), (0, vR x0), (2, vI x2), (4, vL x4), (6, vI x6)]) dX11_sortByOrder_67 2 rfl (kc_inc_1 _) (by decide) rfl ?_
      refine r_goto (pc := 70) (tgt := 9) dX11_sortByOrder_70 rfl ?_
      refine r_sub [1, 2, 0] rfl ?_
      exact hq9 _ _ _ _ h
    · have h := ie h c
      refine r_aload_n (pc := 27) dX11_sortByOrder_27 rfl 0 rfl ?_
      refine r_iload (pc := 28) dX11_sortByOrder_28 4 rfl ?_
      refine r_iconst (pc := 30) dX11_sortByOrder_30 kc_iconst_1 ?_
      refine r_isub (pc := 31) dX11_sortByOrder_31 ?_
      obtain ⟨a13, ha13, h⟩ := ob h
      refine r_ref1 ha13 ?_
      obtain ⟨g14, h⟩ := gd h
      obtain ⟨g15, h⟩ := gd h
      refine r_laload (pc := 32) dX11_sortByOrder_32 g14 g15 ?_
      refine r_callS1 (pc := 33) (av := [vL (J a13 (Int32.toNatClampNeg (x6 - (1 : Int32))))]) (S := []) dX11_sortByOrder_33 (kX11_orderKey rfl) mkX11_558 mwX11_orderKey rfl ⟨Nat.le_of_ble_eq_true rfl, Nat.le_of_ble_eq_true rfl⟩ (Nat.le_of_ble_eq_true rfl) ⟨Nat.le_refl _, Nat.le_refl _⟩ (fun b => b) ?_
      refine r_lload (pc := 36) dX11_sortByOrder_36 3 rfl ?_
      refine r_callS1 (pc := 38) (av := [vL x4]) (S := [vL (fX11_orderKey (J a13 (Int32.toNatClampNeg (x6 - (1 : Int32)))))]) dX11_sortByOrder_38 (kX11_orderKey rfl) mkX11_558 mwX11_orderKey rfl ⟨Nat.le_of_ble_eq_true rfl, Nat.le_of_ble_eq_true rfl⟩ (Nat.le_of_ble_eq_true rfl) ⟨Nat.le_refl _, Nat.le_refl _⟩ (fun b => b) ?_
      refine r_lcmp (pc := 41) dX11_sortByOrder_41 ?_
      refine r_if_le (pc := 42) (tgt := 61) dX11_sortByOrder_42 rfl (fun c => ?_) (fun c => ?_)
      · have h := it h (lgc_le.mp c)
        refine r_aload_n (pc := 61) dX11_sortByOrder_61 rfl 0 rfl ?_
        refine r_ref0 ha13 ?_
        refine r_iload (pc := 62) dX11_sortByOrder_62 4 rfl ?_
        refine r_lload (pc := 64) dX11_sortByOrder_64 3 rfl ?_
        obtain ⟨g16, h⟩ := gd h
        refine r_lastore (pc := 66) dX11_sortByOrder_66 g14 g16 ?_
        refine r_iinc (pc := 67) (v := (x3 + (1 : Int32))) (L' := [(3, vI (x3 + (1 : Int32))), (0, vR x0), (2, vI x2), (4, vL x4), (6, vI x6)]) dX11_sortByOrder_67 2 rfl (kc_inc_1 _) (by decide) rfl ?_
        refine r_goto (pc := 70) (tgt := 9) dX11_sortByOrder_70 rfl ?_
        refine r_sub [1, 2, 0] rfl ?_
        exact hq9 _ _ _ _ h
      · have h := ie h (fun q => c (lgc_le.mpr q))
        refine r_aload_n (pc := 45) dX11_sortByOrder_45 rfl 0 rfl ?_
        refine r_ref0 ha13 ?_
        refine r_iload (pc := 46) dX11_sortByOrder_46 4 rfl ?_
        refine r_aload_n (pc := 48) dX11_sortByOrder_48 rfl 0 rfl ?_
        refine r_ref0 ha13 ?_
        refine r_iload (pc := 49) dX11_sortByOrder_49 4 rfl ?_
        refine r_iconst (pc := 51) dX11_sortByOrder_51 kc_iconst_1 ?_
        refine r_isub (pc := 52) dX11_sortByOrder_52 ?_
        refine r_laload (pc := 53) dX11_sortByOrder_53 g14 g15 ?_
        obtain ⟨g19, h⟩ := gd h
        refine r_lastore (pc := 54) dX11_sortByOrder_54 g14 g19 ?_
        refine r_iinc (pc := 55) (v := (x6 + (-1 : Int32))) (L' := [(6, vI (x6 + (-1 : Int32))), (0, vR x0), (2, vI x2), (3, vI x3), (4, vL x4)]) dX11_sortByOrder_55 4 rfl (kc_inc_m1 _) (by decide) rfl ?_
        refine r_goto (pc := 58) (tgt := 22) dX11_sortByOrder_58 rfl ?_
        refine r_sub [1, 2, 3, 4, 0] rfl ?_
        exact ih _ _ _ _ _ _ h
def fX11_sortByOrder_l9  (σ : Shp) : Nat → (Nat → Nat → Int64) → (Option Nat) → (Int32) → (Int32) → Option ((Nat → Nat → Int64))
  | 0, _, _, _, _ => none
  | n + 1, J, x0, x2, x3 =>
    if x2 ≤ x3 then
      some J
    else
      (x0 : Option Nat).bind fun a4 =>
      if kdx σ a4 = 21 then
      if ¬ (x3 < 0 ∨ lnx σ a4 ≤ Int32.toNatClampNeg x3) then
      let v7 := (J a4 (Int32.toNatClampNeg x3))
      fX11_sortByOrder_l22 (fX11_sortByOrder_l9 σ n) σ FUx J x0 x2 x3 v7 x3
      else none
      else none
theorem wX11_sortByOrder_l9 {G : Gx} {l : Launch} {σ : Shp} {I : Nat → Nat → Int32} {D : Nat → Nat → UInt64} {R : Nat → Nat → Option Nat} {J9 : Nat → Nat → Int64} : ∀ (n : Nat) (J : Nat → Nat → Int64) (x0 : Option Nat) (x2 : Int32) (x3 : Int32), fX11_sortByOrder_l9 σ n J x0 x2 x3 = some J9 → WX11_sortByOrder G l σ (σ, I, J9, D, R) none (σ, I, J, D, R) 9 [(0, vR x0), (2, vI x2), (3, vI x3)] [] := by
  intro n
  induction n with
  | zero =>
    intro J x0 x2 x3 h
    have h : none = some _ := h
    cases h
  | succ n ih =>
    intro J x0 x2 x3 h
    rw [fX11_sortByOrder_l9] at h
    refine r_iload_n (pc := 9) dX11_sortByOrder_9 rfl 2 rfl ?_
    refine r_iload_n (pc := 10) dX11_sortByOrder_10 rfl 1 rfl ?_
    refine r_icmp_ge (pc := 11) (tgt := 73) dX11_sortByOrder_11 rfl (fun c => ?_) (fun c => ?_)
    · have h := it h c
      cases h
      exact r_vret dX11_sortByOrder_73
    · have h := ie h c
      refine r_aload_n (pc := 14) dX11_sortByOrder_14 rfl 0 rfl ?_
      refine r_iload_n (pc := 15) dX11_sortByOrder_15 rfl 2 rfl ?_
      obtain ⟨a4, ha4, h⟩ := ob h
      refine r_ref1 ha4 ?_
      obtain ⟨g5, h⟩ := gd h
      obtain ⟨g6, h⟩ := gd h
      refine r_laload (pc := 16) dX11_sortByOrder_16 g5 g6 ?_
      refine r_lstore (pc := 17) (L' := [(4, vL (J a4 (Int32.toNatClampNeg x3))), (0, vR x0), (2, vI x2), (3, vI x3)]) dX11_sortByOrder_17 (by decide) rfl ?_
      refine r_iload_n (pc := 19) dX11_sortByOrder_19 rfl 3 rfl ?_
      refine r_istore (pc := 20) (L' := [(6, vI x3), (4, vL (J a4 (Int32.toNatClampNeg x3))), (0, vR x0), (2, vI x2), (3, vI x3)]) dX11_sortByOrder_20 (by decide) rfl ?_
      refine r_sub [2, 3, 4, 1, 0] rfl ?_
      exact wX11_sortByOrder_l22 ih _ _ _ _ _ _ _ h
def fX11_sortByOrder (σ : Shp) (J : Nat → Nat → Int64) (x0 : Option Nat) (x1 : Int32) : Option ((Nat → Nat → Int64)) :=
  (x0 : Option Nat).bind fun a1 =>
  if kdx σ a1 = 21 then
  let v3 := (fXM_minI x1 (Int32.ofNat (lnx σ a1)))
  fX11_sortByOrder_l9 σ FUx J x0 v3 (1 : Int32)
  else none
theorem kX11_sortByOrder {G : Gx} {l : Launch} {σ : Shp} {I : Nat → Nat → Int32} {J : Nat → Nat → Int64} {D : Nat → Nat → UInt64} {R : Nat → Nat → Option Nat} {x0 : Option Nat} {x1 : Int32} {J9 : Nat → Nat → Int64} (h : fX11_sortByOrder σ J x0 x1 = some J9) : Con G l yX11_sortByOrder cX11_sortByOrder 7 none 1 21 [vR x0, vI x1] (σ, I, J, D, R) (σ, I, J9, D, R) none := by
  unfold fX11_sortByOrder at h
  refine Con.mk (by decide +kernel) rfl (Nat.le_of_ble_eq_true rfl) ?_
  show WX11_sortByOrder G l σ (σ, I, J9, D, R) none (σ, I, J, D, R) 0 _ []
  refine r_iload_n (pc := 0) dX11_sortByOrder_0 rfl 1 rfl ?_
  refine r_aload_n (pc := 1) dX11_sortByOrder_1 rfl 0 rfl ?_
  obtain ⟨a1, ha1, h⟩ := ob h
  refine r_ref0 ha1 ?_
  obtain ⟨g2, h⟩ := gd h
  refine r_alen (pc := 2) dX11_sortByOrder_2 g2 (by decide) ?_
  refine r_callS1 (pc := 3) (av := [vI x1, vI (Int32.ofNat (lnx σ a1))]) (S := []) dX11_sortByOrder_3 (kXM_minI rfl) mkX11_400 mwXM_minI rfl ⟨Nat.le_of_ble_eq_true rfl, Nat.le_of_ble_eq_true rfl⟩ (Nat.le_of_ble_eq_true rfl) ⟨Nat.le_refl _, Nat.le_refl _⟩ (fun b => b) ?_
  refine r_istore_n (pc := 6) (L' := [(2, vI (fXM_minI x1 (Int32.ofNat (lnx σ a1)))), (0, vR x0), (1, vI x1)]) dX11_sortByOrder_6 rfl (by decide) rfl ?_
  refine r_iconst (pc := 7) dX11_sortByOrder_7 kc_iconst_1 ?_
  refine r_istore_n (pc := 8) (L' := [(3, vI (1 : Int32)), (2, vI (fXM_minI x1 (Int32.ofNat (lnx σ a1)))), (0, vR x0), (1, vI x1)]) dX11_sortByOrder_8 rfl (by decide) rfl ?_
  refine r_sub [2, 1, 0] rfl ?_
  exact wX11_sortByOrder_l9 _ _ _ _ _ h
abbrev WX4_middleOf (G : Gx) (l : Launch) (σ0 : Shp) (X1 : Stt) (rv : Option SV) : Stt → Nat → List (Nat × SV) → List SV → Prop := Wm G l yX4_middleOf cX4_middleOf 4 (some .long) (fun _ => True) (rmx 2 47 σ0 X1.1) σ0 (Qmx G σ0 X1 rv)
def fX4_middleOf_l4  (σ : Shp) (I : Nat → Nat → Int32) (R : Nat → Nat → Option Nat) (t : Nat) : Nat → (Nat → Nat → Int64) → (Int32) → (Int32) → Option ((Nat → Nat → Int64) × (Int64))
  | 0, _, _, _ => none
  | n + 1, J, x2, x3 =>
    if (9 : Int32) ≤ x3 then
      if x2 = 0 then
        some (J, (9221120237041090560 : Int64))
      else
        if kdx σ t = 5 then
        ((R t 6) : Option Nat).bind fun a2 =>
        (fX11_sortByOrder σ J (some a2) x2).bind fun J3 =>
        if kdx σ a2 = 21 then
        if ¬ (((x2 - (1 : Int32)) / (2 : Int32)) < 0 ∨ lnx σ a2 ≤ Int32.toNatClampNeg ((x2 - (1 : Int32)) / (2 : Int32))) then
        some (J3, (J3 a2 (Int32.toNatClampNeg ((x2 - (1 : Int32)) / (2 : Int32)))))
        else none
        else none
        else none
    else
      if kdx σ t = 5 then
      ((R t 1) : Option Nat).bind fun a8 =>
      if kdx σ a8 = 28 then
      if ¬ (x3 < 0 ∨ lnx σ a8 ≤ Int32.toNatClampNeg x3) then
      ((R a8 (Int32.toNatClampNeg x3)) : Option Nat).bind fun a11 =>
      if kdx σ a11 = 20 then
      if ¬ ((0 : Int32) < 0 ∨ lnx σ a11 ≤ Int32.toNatClampNeg (0 : Int32)) then
      if (I a11 (Int32.toNatClampNeg (0 : Int32))) = (1 : Int32) then
        ((R t 2) : Option Nat).bind fun a15 =>
        if kdx σ a15 = 21 then
        if ¬ (x3 < 0 ∨ lnx σ a15 ≤ Int32.toNatClampNeg x3) then
        if (fX11_isNumber (J a15 (Int32.toNatClampNeg x3))) = 0 then
          let v18 := x3 + (3 : Int32)
          fX4_middleOf_l4 σ I R t n J x2 v18
        else
          if (9 : Int32) ≤ x2 then
            let v19 := x3 + (3 : Int32)
            fX4_middleOf_l4 σ I R t n J x2 v19
          else
            ((R t 6) : Option Nat).bind fun a20 =>
            if kdx σ a20 = 21 then
            if ¬ (x2 < 0 ∨ lnx σ a20 ≤ Int32.toNatClampNeg x2) then
            let J23 := u2 J a20 (Int32.toNatClampNeg x2) (J a15 (Int32.toNatClampNeg x3))
            let v24 := x2 + (1 : Int32)
            let v25 := x3 + (3 : Int32)
            fX4_middleOf_l4 σ I R t n J23 v24 v25
            else none
            else none
        else none
        else none
      else
        let v14 := x3 + (3 : Int32)
        fX4_middleOf_l4 σ I R t n J x2 v14
      else none
      else none
      else none
      else none
      else none
theorem wX4_middleOf_l4 {G : Gx} {l : Launch} {σ : Shp} {I : Nat → Nat → Int32} {D : Nat → Nat → UInt64} {R : Nat → Nat → Option Nat} {t : Nat} {J9 : Nat → Nat → Int64} {r9 : Int64} : ∀ (n : Nat) (J : Nat → Nat → Int64) (x2 : Int32) (x3 : Int32), fX4_middleOf_l4 σ I R t n J x2 x3 = some (J9, r9) → WX4_middleOf G l σ (σ, I, J9, D, R) (some (vL r9)) (σ, I, J, D, R) 4 [(0, vR (some t)), (2, vI x2), (3, vI x3)] [] := by
  intro n
  induction n with
  | zero =>
    intro J x2 x3 h
    have h : none = some _ := h
    cases h
  | succ n ih =>
    intro J x2 x3 h
    rw [fX4_middleOf_l4] at h
    refine r_iload_n (pc := 4) dX4_middleOf_4 rfl 2 rfl ?_
    refine r_bipush (pc := 5) dX4_middleOf_5 kc_bipush_9 ?_
    refine r_icmp_ge (pc := 7) (tgt := 61) dX4_middleOf_7 rfl (fun c => ?_) (fun c => ?_)
    · have h := it h c
      refine r_iload_n (pc := 61) dX4_middleOf_61 rfl 1 rfl ?_
      refine r_ifne (pc := 62) (tgt := 69) dX4_middleOf_62 rfl (fun c => ?_) (fun c => ?_)
      · have h := ie h c
        refine r_aload_n (pc := 69) dX4_middleOf_69 rfl 0 rfl ?_
        obtain ⟨g1, h⟩ := gd h
        obtain ⟨a2, ha2, h⟩ := ob h
        refine r_getS (pc := 70) dX4_middleOf_70 fgX4_37 rfl g1 ha2 ?_
        refine r_iload_n (pc := 73) dX4_middleOf_73 rfl 1 rfl ?_
        obtain ⟨J3, hc4, h⟩ := ob h
        refine r_callSN0 (pc := 74) (av := [vR (some a2), vI x2]) (S := []) dX4_middleOf_74 (kX11_sortByOrder hc4) nkX4_131 mwX11_sortByOrder rfl ⟨Nat.le_of_ble_eq_true rfl, Nat.le_of_ble_eq_true rfl⟩ (Nat.le_of_ble_eq_true rfl) ⟨Nat.le_refl _, Nat.le_refl _⟩ (fun b => b) ?_
        refine r_aload_n (pc := 77) dX4_middleOf_77 rfl 0 rfl ?_
        refine r_getS (pc := 78) dX4_middleOf_78 fgX4_37 rfl g1 ha2 ?_
        refine r_iload_n (pc := 81) dX4_middleOf_81 rfl 1 rfl ?_
        refine r_iconst (pc := 82) dX4_middleOf_82 kc_iconst_1 ?_
        refine r_isub (pc := 83) dX4_middleOf_83 ?_
        refine r_iconst (pc := 84) dX4_middleOf_84 kc_iconst_2 ?_
        refine r_idiv (pc := 85) dX4_middleOf_85 (by decide) ?_
        obtain ⟨g5, h⟩ := gd h
        obtain ⟨g6, h⟩ := gd h
        refine r_laload (pc := 86) dX4_middleOf_86 g5 g6 ?_
        cases h
        exact r_lret dX4_middleOf_87
      · have h := it h c
        refine r_ldc2 (pc := 65) dX4_middleOf_65 clX4_64 ?_
        cases h
        exact r_lret dX4_middleOf_68
    · have h := ie h c
      refine r_aload_n (pc := 10) dX4_middleOf_10 rfl 0 rfl ?_
      obtain ⟨g7, h⟩ := gd h
      obtain ⟨a8, ha8, h⟩ := ob h
      refine r_getS (pc := 11) dX4_middleOf_11 fgX4_20 rfl g7 ha8 ?_
      refine r_iload_n (pc := 14) dX4_middleOf_14 rfl 2 rfl ?_
      obtain ⟨g9, h⟩ := gd h
      obtain ⟨g10, h⟩ := gd h
      refine r_aaload (pc := 15) dX4_middleOf_15 g9 (by decide) g10 ?_
      obtain ⟨a11, ha11, h⟩ := ob h
      refine r_ref0 ha11 ?_
      refine r_iconst (pc := 16) dX4_middleOf_16 kc_iconst_0 ?_
      obtain ⟨g12, h⟩ := gd h
      obtain ⟨g13, h⟩ := gd h
      refine r_iaload (pc := 17) dX4_middleOf_17 g12 g13 ?_
      refine r_iconst (pc := 18) dX4_middleOf_18 kc_iconst_1 ?_
      refine r_icmp_ne (pc := 19) (tgt := 55) dX4_middleOf_19 rfl (fun c => ?_) (fun c => ?_)
      · have h := ie h c
        refine r_iinc (pc := 55) (v := (x3 + (3 : Int32))) (L' := [(3, vI (x3 + (3 : Int32))), (0, vR (some t)), (2, vI x2)]) dX4_middleOf_55 2 rfl (kc_inc_3 _) (by decide) rfl ?_
        refine r_goto (pc := 58) (tgt := 4) dX4_middleOf_58 rfl ?_
        refine r_sub [1, 2, 0] rfl ?_
        exact ih _ _ _ h
      · have h := it h c
        refine r_aload_n (pc := 22) dX4_middleOf_22 rfl 0 rfl ?_
        obtain ⟨a15, ha15, h⟩ := ob h
        refine r_getS (pc := 23) dX4_middleOf_23 fgX4_23 rfl g7 ha15 ?_
        refine r_iload_n (pc := 26) dX4_middleOf_26 rfl 2 rfl ?_
        obtain ⟨g16, h⟩ := gd h
        obtain ⟨g17, h⟩ := gd h
        refine r_laload (pc := 27) dX4_middleOf_27 g16 g17 ?_
        refine r_callSN1 (pc := 28) (av := [vL (J a15 (Int32.toNatClampNeg x3))]) (S := []) dX4_middleOf_28 (kX11_isNumber rfl) nkX4_70 mwX11_isNumber rfl ⟨Nat.le_of_ble_eq_true rfl, Nat.le_of_ble_eq_true rfl⟩ (Nat.le_of_ble_eq_true rfl) ⟨Nat.le_refl _, Nat.le_refl _⟩ (fun b => b) ?_
        refine r_if_eq (pc := 31) (tgt := 55) dX4_middleOf_31 rfl (fun c => ?_) (fun c => ?_)
        · have h := it h c
          refine r_iinc (pc := 55) (v := (x3 + (3 : Int32))) (L' := [(3, vI (x3 + (3 : Int32))), (0, vR (some t)), (2, vI x2)]) dX4_middleOf_55 2 rfl (kc_inc_3 _) (by decide) rfl ?_
          refine r_goto (pc := 58) (tgt := 4) dX4_middleOf_58 rfl ?_
          refine r_sub [1, 2, 0] rfl ?_
          exact ih _ _ _ h
        · have h := ie h c
          refine r_iload_n (pc := 34) dX4_middleOf_34 rfl 1 rfl ?_
          refine r_bipush (pc := 35) dX4_middleOf_35 kc_bipush_9 ?_
          refine r_icmp_ge (pc := 37) (tgt := 55) dX4_middleOf_37 rfl (fun c => ?_) (fun c => ?_)
          · have h := it h c
            refine r_iinc (pc := 55) (v := (x3 + (3 : Int32))) (L' := [(3, vI (x3 + (3 : Int32))), (0, vR (some t)), (2, vI x2)]) dX4_middleOf_55 2 rfl (kc_inc_3 _) (by decide) rfl ?_
            refine r_goto (pc := 58) (tgt := 4) dX4_middleOf_58 rfl ?_
            refine r_sub [1, 2, 0] rfl ?_
            exact ih _ _ _ h
          · have h := ie h c
            refine r_aload_n (pc := 40) dX4_middleOf_40 rfl 0 rfl ?_
            obtain ⟨a20, ha20, h⟩ := ob h
            refine r_getS (pc := 41) dX4_middleOf_41 fgX4_37 rfl g7 ha20 ?_
            refine r_iload_n (pc := 44) dX4_middleOf_44 rfl 1 rfl ?_
            refine r_aload_n (pc := 45) dX4_middleOf_45 rfl 0 rfl ?_
            refine r_getS (pc := 46) dX4_middleOf_46 fgX4_23 rfl g7 ha15 ?_
            refine r_iload_n (pc := 49) dX4_middleOf_49 rfl 2 rfl ?_
            refine r_laload (pc := 50) dX4_middleOf_50 g16 g17 ?_
            obtain ⟨g21, h⟩ := gd h
            obtain ⟨g22, h⟩ := gd h
            refine r_lastore (pc := 51) dX4_middleOf_51 g21 g22 ?_
            refine r_iinc (pc := 52) (v := (x2 + (1 : Int32))) (L' := [(2, vI (x2 + (1 : Int32))), (0, vR (some t)), (3, vI x3)]) dX4_middleOf_52 1 rfl (kc_inc_1 _) (by decide) rfl ?_
            refine r_iinc (pc := 55) (v := (x3 + (3 : Int32))) (L' := [(3, vI (x3 + (3 : Int32))), (2, vI (x2 + (1 : Int32))), (0, vR (some t))]) dX4_middleOf_55 2 rfl (kc_inc_3 _) (by decide) rfl ?_
            refine r_goto (pc := 58) (tgt := 4) dX4_middleOf_58 rfl ?_
            refine r_sub [2, 1, 0] rfl ?_
            exact ih _ _ _ h
def fX4_middleOf (σ : Shp) (I : Nat → Nat → Int32) (J : Nat → Nat → Int64) (R : Nat → Nat → Option Nat) (t : Nat) (x1 : Int32) : Option ((Nat → Nat → Int64) × (Int64)) :=
  fX4_middleOf_l4 σ I R t FUx J (0 : Int32) x1
theorem kX4_middleOf {G : Gx} {l : Launch} {σ : Shp} {I : Nat → Nat → Int32} {J : Nat → Nat → Int64} {D : Nat → Nat → UInt64} {R : Nat → Nat → Option Nat} {t : Nat} {x1 : Int32} {J9 : Nat → Nat → Int64} {r9 : Int64} (h : fX4_middleOf σ I J R t x1 = some (J9, r9)) : Con G l yX4_middleOf cX4_middleOf 4 (some .long) 2 47 [vR (some t), vI x1] (σ, I, J, D, R) (σ, I, J9, D, R) (some (vL r9)) := by
  unfold fX4_middleOf at h
  refine Con.mk (by decide +kernel) rfl (Nat.le_of_ble_eq_true rfl) ?_
  show WX4_middleOf G l σ (σ, I, J9, D, R) (some (vL r9)) (σ, I, J, D, R) 0 _ []
  refine r_iconst (pc := 0) dX4_middleOf_0 kc_iconst_0 ?_
  refine r_istore_n (pc := 1) (L' := [(2, vI (0 : Int32)), (0, vR (some t)), (1, vI x1)]) dX4_middleOf_1 rfl (by decide) rfl ?_
  refine r_iload_n (pc := 2) dX4_middleOf_2 rfl 2 rfl ?_
  refine r_istore_n (pc := 3) (L' := [(3, vI x1), (2, vI (0 : Int32)), (0, vR (some t)), (1, vI x1)]) dX4_middleOf_3 rfl (by decide) rfl ?_
  refine r_sub [2, 1, 0] rfl ?_
  exact wX4_middleOf_l4 _ _ _ _ h
abbrev WX4_vote (G : Gx) (l : Launch) (σ0 : Shp) (X1 : Stt) (rv : Option SV) : Stt → Nat → List (Nat × SV) → List SV → Prop := Wm G l yX4_vote cX4_vote 7 none (fun _ => True) (rmx 3 70 σ0 X1.1) σ0 (Qmx G σ0 X1 rv)
def fX4_vote_l54  (σ : Shp) (D : Nat → Nat → UInt64) (R : Nat → Nat → Option Nat) (t : Nat) : Nat → (Nat → Nat → Int32) → (Nat → Nat → Int64) → (Int32) → (Int32) → (Int32) → (UInt64) → (Int32) → Option ((Nat → Nat → Int32) × (Nat → Nat → Int64))
  | 0, _, _, _, _, _, _, _ => none
  | n + 1, I, J, x1, x2, x3, x4, x6 =>
    if (9 : Int32) ≤ x6 then
      some (I, J)
    else
      if x3 = 0 then
        if kdx σ t = 5 then
        ((R t 5) : Option Nat).bind fun a16 =>
        if kdx σ a16 = 21 then
        if ¬ (x1 < 0 ∨ lnx σ a16 ≤ Int32.toNatClampNeg x1) then
        (fX4_countOff σ I J D R t x6 (0 : Int32) (J a16 (Int32.toNatClampNeg x1)) x4).bind fun I19 =>
        (fX4_judge σ I19 J R t x6 x2).bind fun I21 =>
        let v23 := x6 + (3 : Int32)
        fX4_vote_l54 σ D R t n I21 J x1 x2 x3 x4 v23
        else none
        else none
        else none
      else
        if kdx σ t = 5 then
        ((R t 2) : Option Nat).bind fun a25 =>
        if kdx σ a25 = 21 then
        if ¬ (x6 < 0 ∨ lnx σ a25 ≤ Int32.toNatClampNeg x6) then
        if (fX11_isNumber (J a25 (Int32.toNatClampNeg x6))) = 0 then
          ((R t 5) : Option Nat).bind fun a28 =>
          if kdx σ a28 = 21 then
          if ¬ (x1 < 0 ∨ lnx σ a28 ≤ Int32.toNatClampNeg x1) then
          (fX4_countOff σ I J D R t x6 (0 : Int32) (J a28 (Int32.toNatClampNeg x1)) x4).bind fun I31 =>
          (fX4_judge σ I31 J R t x6 x2).bind fun I33 =>
          let v35 := x6 + (3 : Int32)
          fX4_vote_l54 σ D R t n I33 J x1 x2 x3 x4 v35
          else none
          else none
        else
          ((R t 5) : Option Nat).bind fun a36 =>
          if kdx σ a36 = 21 then
          if ¬ (x1 < 0 ∨ lnx σ a36 ≤ Int32.toNatClampNeg x1) then
          (fX4_countOff σ I J D R t x6 (1 : Int32) (J a36 (Int32.toNatClampNeg x1)) x4).bind fun I39 =>
          (fX4_judge σ I39 J R t x6 x2).bind fun I41 =>
          let v43 := x6 + (3 : Int32)
          fX4_vote_l54 σ D R t n I41 J x1 x2 x3 x4 v43
          else none
          else none
        else none
        else none
        else none
theorem wX4_vote_l54 {G : Gx} {l : Launch} {σ : Shp} {D : Nat → Nat → UInt64} {R : Nat → Nat → Option Nat} {t : Nat} {I9 : Nat → Nat → Int32} {J9 : Nat → Nat → Int64} : ∀ (n : Nat) (I : Nat → Nat → Int32) (J : Nat → Nat → Int64) (x1 : Int32) (x2 : Int32) (x3 : Int32) (x4 : UInt64) (x6 : Int32), fX4_vote_l54 σ D R t n I J x1 x2 x3 x4 x6 = some (I9, J9) → WX4_vote G l σ (σ, I9, J9, D, R) none (σ, I, J, D, R) 54 [(0, vR (some t)), (1, vI x1), (2, vI x2), (3, vI x3), (4, vD x4), (6, vI x6)] [] := by
  intro n
  induction n with
  | zero =>
    intro I J x1 x2 x3 x4 x6 h
    have h : none = some _ := h
    cases h
  | succ n ih =>
    intro I J x1 x2 x3 x4 x6 h
    rw [fX4_vote_l54] at h
    refine r_iload (pc := 54) dX4_vote_54 5 rfl ?_
    refine r_bipush (pc := 56) dX4_vote_56 kc_bipush_9 ?_
    refine r_icmp_ge (pc := 58) (tgt := 110) dX4_vote_58 rfl (fun c => ?_) (fun c => ?_)
    · have h := it h c
      cases h
      exact r_vret dX4_vote_110
    · have h := ie h c
      refine r_aload_n (pc := 61) dX4_vote_61 rfl 0 rfl ?_
      refine r_iload (pc := 62) dX4_vote_62 5 rfl ?_
      refine r_iload_n (pc := 64) dX4_vote_64 rfl 3 rfl ?_
      refine r_if_eq (pc := 65) (tgt := 85) dX4_vote_65 rfl (fun c => ?_) (fun c => ?_)
      · have h := it h c
        refine r_iconst (pc := 85) dX4_vote_85 kc_iconst_0 ?_
        refine r_aload_n (pc := 86) dX4_vote_86 rfl 0 rfl ?_
        obtain ⟨g15, h⟩ := gd h
        obtain ⟨a16, ha16, h⟩ := ob h
        refine r_getS (pc := 87) dX4_vote_87 fgX4_34 rfl g15 ha16 ?_
        refine r_iload_n (pc := 90) dX4_vote_90 rfl 1 rfl ?_
        obtain ⟨g17, h⟩ := gd h
        obtain ⟨g18, h⟩ := gd h
        refine r_laload (pc := 91) dX4_vote_91 g17 g18 ?_
        refine r_dload (pc := 92) dX4_vote_92 4 rfl ?_
        obtain ⟨I19, hc20, h⟩ := ob h
        refine r_callV0 (pc := 94) (av := [vI x6, vI (0 : Int32), vL (J a16 (Int32.toNatClampNeg x1)), vD x4]) (S := []) dX4_vote_94 (kX4_countOff hc20) g15 rfl mkX4_123 mwX4_countOff rfl ⟨Nat.le_of_ble_eq_true rfl, Nat.le_of_ble_eq_true rfl⟩ (Nat.le_of_ble_eq_true rfl) ⟨Nat.le_refl _, Nat.le_refl _⟩ (fun b => b) ?_
        refine r_aload_n (pc := 97) dX4_vote_97 rfl 0 rfl ?_
        refine r_iload (pc := 98) dX4_vote_98 5 rfl ?_
        refine r_iload_n (pc := 100) dX4_vote_100 rfl 2 rfl ?_
        obtain ⟨I21, hc22, h⟩ := ob h
        refine r_callV0 (pc := 101) (av := [vI x6, vI x2]) (S := []) dX4_vote_101 (kX4_judge hc22) g15 rfl mkX4_127 mwX4_judge rfl ⟨Nat.le_of_ble_eq_true rfl, Nat.le_of_ble_eq_true rfl⟩ (Nat.le_of_ble_eq_true rfl) ⟨Nat.le_refl _, Nat.le_refl _⟩ (fun b => b) ?_
        refine r_iinc (pc := 104) (v := (x6 + (3 : Int32))) (L' := [(6, vI (x6 + (3 : Int32))), (0, vR (some t)), (1, vI x1), (2, vI x2), (3, vI x3), (4, vD x4)]) dX4_vote_104 5 rfl (kc_inc_3 _) (by decide) rfl ?_
        refine r_goto (pc := 107) (tgt := 54) dX4_vote_107 rfl ?_
        refine r_sub [1, 2, 3, 4, 5, 0] rfl ?_
        exact ih _ _ _ _ _ _ _ h
      · have h := ie h c
        refine r_aload_n (pc := 68) dX4_vote_68 rfl 0 rfl ?_
        obtain ⟨g24, h⟩ := gd h
        obtain ⟨a25, ha25, h⟩ := ob h
        refine r_getS (pc := 69) dX4_vote_69 fgX4_23 rfl g24 ha25 ?_
        refine r_iload (pc := 72) dX4_vote_72 5 rfl ?_
        obtain ⟨g26, h⟩ := gd h
        obtain ⟨g27, h⟩ := gd h
        refine r_laload (pc := 74) dX4_vote_74 g26 g27 ?_
        refine r_callSN1 (pc := 75) (av := [vL (J a25 (Int32.toNatClampNeg x6))]) (S := [vI x6, vR (some t)]) dX4_vote_75 (kX11_isNumber rfl) nkX4_70 mwX11_isNumber rfl ⟨Nat.le_of_ble_eq_true rfl, Nat.le_of_ble_eq_true rfl⟩ (Nat.le_of_ble_eq_true rfl) ⟨Nat.le_refl _, Nat.le_refl _⟩ (fun b => b) ?_
        refine r_if_eq (pc := 78) (tgt := 85) dX4_vote_78 rfl (fun c => ?_) (fun c => ?_)
        · have h := it h c
          refine r_iconst (pc := 85) dX4_vote_85 kc_iconst_0 ?_
          refine r_aload_n (pc := 86) dX4_vote_86 rfl 0 rfl ?_
          obtain ⟨a28, ha28, h⟩ := ob h
          refine r_getS (pc := 87) dX4_vote_87 fgX4_34 rfl g24 ha28 ?_
          refine r_iload_n (pc := 90) dX4_vote_90 rfl 1 rfl ?_
          obtain ⟨g29, h⟩ := gd h
          obtain ⟨g30, h⟩ := gd h
          refine r_laload (pc := 91) dX4_vote_91 g29 g30 ?_
          refine r_dload (pc := 92) dX4_vote_92 4 rfl ?_
          obtain ⟨I31, hc32, h⟩ := ob h
          refine r_callV0 (pc := 94) (av := [vI x6, vI (0 : Int32), vL (J a28 (Int32.toNatClampNeg x1)), vD x4]) (S := []) dX4_vote_94 (kX4_countOff hc32) g24 rfl mkX4_123 mwX4_countOff rfl ⟨Nat.le_of_ble_eq_true rfl, Nat.le_of_ble_eq_true rfl⟩ (Nat.le_of_ble_eq_true rfl) ⟨Nat.le_refl _, Nat.le_refl _⟩ (fun b => b) ?_
          refine r_aload_n (pc := 97) dX4_vote_97 rfl 0 rfl ?_
          refine r_iload (pc := 98) dX4_vote_98 5 rfl ?_
          refine r_iload_n (pc := 100) dX4_vote_100 rfl 2 rfl ?_
          obtain ⟨I33, hc34, h⟩ := ob h
          refine r_callV0 (pc := 101) (av := [vI x6, vI x2]) (S := []) dX4_vote_101 (kX4_judge hc34) g24 rfl mkX4_127 mwX4_judge rfl ⟨Nat.le_of_ble_eq_true rfl, Nat.le_of_ble_eq_true rfl⟩ (Nat.le_of_ble_eq_true rfl) ⟨Nat.le_refl _, Nat.le_refl _⟩ (fun b => b) ?_
          refine r_iinc (pc := 104) (v := (x6 + (3 : Int32))) (L' := [(6, vI (x6 + (3 : Int32))), (0, vR (some t)), (1, vI x1), (2, vI x2), (3, vI x3), (4, vD x4)]) dX4_vote_104 5 rfl (kc_inc_3 _) (by decide) rfl ?_
          refine r_goto (pc := 107) (tgt := 54) dX4_vote_107 rfl ?_
          refine r_sub [1, 2, 3, 4, 5, 0] rfl ?_
          exact ih _ _ _ _ _ _ _ h
        · have h := ie h c
          refine r_iconst (pc := 81) dX4_vote_81 kc_iconst_1 ?_
          refine r_goto (pc := 82) (tgt := 86) dX4_vote_82 rfl ?_
          refine r_aload_n (pc := 86) dX4_vote_86 rfl 0 rfl ?_
          obtain ⟨a36, ha36, h⟩ := ob h
          refine r_getS (pc := 87) dX4_vote_87 fgX4_34 rfl g24 ha36 ?_
          refine r_iload_n (pc := 90) dX4_vote_90 rfl 1 rfl ?_
          obtain ⟨g37, h⟩ := gd h
          obtain ⟨g38, h⟩ := gd h
          refine r_laload (pc := 91) dX4_vote_91 g37 g38 ?_
          refine r_dload (pc := 92) dX4_vote_92 4 rfl ?_
          obtain ⟨I39, hc40, h⟩ := ob h
          refine r_callV0 (pc := 94) (av := [vI x6, vI (1 : Int32), vL (J a36 (Int32.toNatClampNeg x1)), vD x4]) (S := []) dX4_vote_94 (kX4_countOff hc40) g24 rfl mkX4_123 mwX4_countOff rfl ⟨Nat.le_of_ble_eq_true rfl, Nat.le_of_ble_eq_true rfl⟩ (Nat.le_of_ble_eq_true rfl) ⟨Nat.le_refl _, Nat.le_refl _⟩ (fun b => b) ?_
          refine r_aload_n (pc := 97) dX4_vote_97 rfl 0 rfl ?_
          refine r_iload (pc := 98) dX4_vote_98 5 rfl ?_
          refine r_iload_n (pc := 100) dX4_vote_100 rfl 2 rfl ?_
          obtain ⟨I41, hc42, h⟩ := ob h
          refine r_callV0 (pc := 101) (av := [vI x6, vI x2]) (S := []) dX4_vote_101 (kX4_judge hc42) g24 rfl mkX4_127 mwX4_judge rfl ⟨Nat.le_of_ble_eq_true rfl, Nat.le_of_ble_eq_true rfl⟩ (Nat.le_of_ble_eq_true rfl) ⟨Nat.le_refl _, Nat.le_refl _⟩ (fun b => b) ?_
          refine r_iinc (pc := 104) (v := (x6 + (3 : Int32))) (L' := [(6, vI (x6 + (3 : Int32))), (0, vR (some t)), (1, vI x1), (2, vI x2), (3, vI x3), (4, vD x4)]) dX4_vote_104 5 rfl (kc_inc_3 _) (by decide) rfl ?_
          refine r_goto (pc := 107) (tgt := 54) dX4_vote_107 rfl ?_
          refine r_sub [1, 2, 3, 4, 5, 0] rfl ?_
          exact ih _ _ _ _ _ _ _ h
def fX4_vote (σ : Shp) (I : Nat → Nat → Int32) (J : Nat → Nat → Int64) (D : Nat → Nat → UInt64) (R : Nat → Nat → Option Nat) (t : Nat) (x1 : Int32) : Option ((Nat → Nat → Int32) × (Nat → Nat → Int64)) :=
  if kdx σ t = 5 then
  (fX4_countSame σ I J R t x1).bind fun (I2, J3, r4) =>
  ((R t 5) : Option Nat).bind fun a6 =>
  (fX4_middleOf σ I2 J3 R t x1).bind fun (J7, r8) =>
  if kdx σ a6 = 21 then
  if ¬ (x1 < 0 ∨ lnx σ a6 ≤ Int32.toNatClampNeg x1) then
  let J12 := u2 J7 a6 (Int32.toNatClampNeg x1) r8
  if (fX11_isNumber (J12 a6 (Int32.toNatClampNeg x1))) = 0 then
    (fX4_valueReal σ J12 D R t x1).bind fun r13 =>
    fX4_vote_l54 σ D R t FUx I2 J12 x1 r4 (0 : Int32) r13 x1
  else
    (fX4_manyReading σ J12 R t x1).bind fun r44 =>
    if r44 < (3 : Int32) then
      (fX4_valueReal σ J12 D R t x1).bind fun r46 =>
      fX4_vote_l54 σ D R t FUx I2 J12 x1 r4 (0 : Int32) r46 x1
    else
      (fX4_valueReal σ J12 D R t x1).bind fun r48 =>
      fX4_vote_l54 σ D R t FUx I2 J12 x1 r4 (1 : Int32) r48 x1
  else none
  else none
  else none
theorem kX4_vote {G : Gx} {l : Launch} {σ : Shp} {I : Nat → Nat → Int32} {J : Nat → Nat → Int64} {D : Nat → Nat → UInt64} {R : Nat → Nat → Option Nat} {t : Nat} {x1 : Int32} {I9 : Nat → Nat → Int32} {J9 : Nat → Nat → Int64} (h : fX4_vote σ I J D R t x1 = some (I9, J9)) : Con G l yX4_vote cX4_vote 7 none 3 70 [vR (some t), vI x1] (σ, I, J, D, R) (σ, I9, J9, D, R) none := by
  unfold fX4_vote at h
  refine Con.mk (by decide +kernel) rfl (Nat.le_of_ble_eq_true rfl) ?_
  show WX4_vote G l σ (σ, I9, J9, D, R) none (σ, I, J, D, R) 0 _ []
  refine r_aload_n (pc := 0) dX4_vote_0 rfl 0 rfl ?_
  refine r_iload_n (pc := 1) dX4_vote_1 rfl 1 rfl ?_
  obtain ⟨g1, h⟩ := gd h
  obtain ⟨⟨I2, J3, r4⟩, hc5, h⟩ := ob h
  refine r_callV1 (pc := 2) (av := [vI x1]) (S := []) dX4_vote_2 (kX4_countSame hc5) g1 rfl mkX4_107 mwX4_countSame rfl ⟨Nat.le_of_ble_eq_true rfl, Nat.le_of_ble_eq_true rfl⟩ (Nat.le_of_ble_eq_true rfl) ⟨Nat.le_refl _, Nat.le_refl _⟩ (fun b => b) ?_
  refine r_istore_n (pc := 5) (L' := [(2, vI r4), (0, vR (some t)), (1, vI x1)]) dX4_vote_5 rfl (by decide) rfl ?_
  refine r_aload_n (pc := 6) dX4_vote_6 rfl 1 rfl ?_
  obtain ⟨a6, ha6, h⟩ := ob h
  refine r_getS (pc := 7) dX4_vote_7 fgX4_34 rfl g1 ha6 ?_
  refine r_iload_n (pc := 10) dX4_vote_10 rfl 2 rfl ?_
  refine r_aload_n (pc := 11) dX4_vote_11 rfl 1 rfl ?_
  refine r_iload_n (pc := 12) dX4_vote_12 rfl 2 rfl ?_
  obtain ⟨⟨J7, r8⟩, hc9, h⟩ := ob h
  refine r_callV1 (pc := 13) (av := [vI x1]) (S := [vI x1, vR (some a6)]) dX4_vote_13 (kX4_middleOf hc9) g1 rfl mkX4_111 mwX4_middleOf rfl ⟨Nat.le_of_ble_eq_true rfl, Nat.le_of_ble_eq_true rfl⟩ (Nat.le_of_ble_eq_true rfl) ⟨Nat.le_refl _, Nat.le_refl _⟩ (fun b => b) ?_
  obtain ⟨g10, h⟩ := gd h
  obtain ⟨g11, h⟩ := gd h
  refine r_lastore (pc := 16) dX4_vote_16 g10 g11 ?_
  refine r_aload_n (pc := 17) dX4_vote_17 rfl 1 rfl ?_
  refine r_getS (pc := 18) dX4_vote_18 fgX4_34 rfl g1 ha6 ?_
  refine r_iload_n (pc := 21) dX4_vote_21 rfl 2 rfl ?_
  refine r_laload (pc := 22) dX4_vote_22 g10 g11 ?_
  refine r_callSN1 (pc := 23) (av := [vL ((u2 J7 a6 (Int32.toNatClampNeg x1) r8) a6 (Int32.toNatClampNeg x1))]) (S := []) dX4_vote_23 (kX11_isNumber rfl) nkX4_70 mwX11_isNumber rfl ⟨Nat.le_of_ble_eq_true rfl, Nat.le_of_ble_eq_true rfl⟩ (Nat.le_of_ble_eq_true rfl) ⟨Nat.le_refl _, Nat.le_refl _⟩ (fun b => b) ?_
  refine r_if_eq (pc := 26) (tgt := 42) dX4_vote_26 rfl (fun c => ?_) (fun c => ?_)
  · have h := it h c
    refine r_iconst (pc := 42) dX4_vote_42 kc_iconst_0 ?_
    refine r_istore_n (pc := 43) (L' := [(3, vI (0 : Int32)), (2, vI r4), (0, vR (some t)), (1, vI x1)]) dX4_vote_43 rfl (by decide) rfl ?_
    refine r_aload_n (pc := 44) dX4_vote_44 rfl 2 rfl ?_
    refine r_iload_n (pc := 45) dX4_vote_45 rfl 3 rfl ?_
    obtain ⟨r13, hc14, h⟩ := ob h
    refine r_callV1 (pc := 46) (av := [vI x1]) (S := []) dX4_vote_46 (kX4_valueReal hc14) g1 rfl mkX4_119 mwX4_valueReal rfl ⟨Nat.le_of_ble_eq_true rfl, Nat.le_of_ble_eq_true rfl⟩ (Nat.le_of_ble_eq_true rfl) ⟨Nat.le_refl _, Nat.le_refl _⟩ (fun b => b) ?_
    refine r_dstore (pc := 49) (L' := [(4, vD r13), (3, vI (0 : Int32)), (2, vI r4), (0, vR (some t)), (1, vI x1)]) dX4_vote_49 (by decide) rfl ?_
    refine r_iload_n (pc := 51) dX4_vote_51 rfl 4 rfl ?_
    refine r_istore (pc := 52) (L' := [(6, vI x1), (4, vD r13), (3, vI (0 : Int32)), (2, vI r4), (0, vR (some t)), (1, vI x1)]) dX4_vote_52 (by decide) rfl ?_
    refine r_sub [4, 5, 3, 2, 1, 0] rfl ?_
    exact wX4_vote_l54 _ _ _ _ _ _ _ _ h
  · have h := ie h c
    refine r_aload_n (pc := 29) dX4_vote_29 rfl 1 rfl ?_
    refine r_iload_n (pc := 30) dX4_vote_30 rfl 2 rfl ?_
    obtain ⟨r44, hc45, h⟩ := ob h
    refine r_callV1 (pc := 31) (av := [vI x1]) (S := []) dX4_vote_31 (kX4_manyReading hc45) g1 rfl mkX4_115 mwX4_manyReading rfl ⟨Nat.le_of_ble_eq_true rfl, Nat.le_of_ble_eq_true rfl⟩ (Nat.le_of_ble_eq_true rfl) ⟨Nat.le_refl _, Nat.le_refl _⟩ (fun b => b) ?_
    refine r_iconst (pc := 34) dX4_vote_34 kc_iconst_3 ?_
    refine r_icmp_lt (pc := 35) (tgt := 42) dX4_vote_35 rfl (fun c => ?_) (fun c => ?_)
    · have h := it h c
      refine r_iconst (pc := 42) dX4_vote_42 kc_iconst_0 ?_
      refine r_istore_n (pc := 43) (L' := [(3, vI (0 : Int32)), (2, vI r4), (0, vR (some t)), (1, vI x1)]) dX4_vote_43 rfl (by decide) rfl ?_
      refine r_aload_n (pc := 44) dX4_vote_44 rfl 2 rfl ?_
      refine r_iload_n (pc := 45) dX4_vote_45 rfl 3 rfl ?_
      obtain ⟨r46, hc47, h⟩ := ob h
      refine r_callV1 (pc := 46) (av := [vI x1]) (S := []) dX4_vote_46 (kX4_valueReal hc47) g1 rfl mkX4_119 mwX4_valueReal rfl ⟨Nat.le_of_ble_eq_true rfl, Nat.le_of_ble_eq_true rfl⟩ (Nat.le_of_ble_eq_true rfl) ⟨Nat.le_refl _, Nat.le_refl _⟩ (fun b => b) ?_
      refine r_dstore (pc := 49) (L' := [(4, vD r46), (3, vI (0 : Int32)), (2, vI r4), (0, vR (some t)), (1, vI x1)]) dX4_vote_49 (by decide) rfl ?_
      refine r_iload_n (pc := 51) dX4_vote_51 rfl 4 rfl ?_
      refine r_istore (pc := 52) (L' := [(6, vI x1), (4, vD r46), (3, vI (0 : Int32)), (2, vI r4), (0, vR (some t)), (1, vI x1)]) dX4_vote_52 (by decide) rfl ?_
      refine r_sub [4, 5, 3, 2, 1, 0] rfl ?_
      exact wX4_vote_l54 _ _ _ _ _ _ _ _ h
    · have h := ie h c
      refine r_iconst (pc := 38) dX4_vote_38 kc_iconst_1 ?_
      refine r_goto (pc := 39) (tgt := 43) dX4_vote_39 rfl ?_
      refine r_istore_n (pc := 43) (L' := [(3, vI (1 : Int32)), (2, vI r4), (0, vR (some t)), (1, vI x1)]) dX4_vote_43 rfl (by decide) rfl ?_
      refine r_aload_n (pc := 44) dX4_vote_44 rfl 2 rfl ?_
      refine r_iload_n (pc := 45) dX4_vote_45 rfl 3 rfl ?_
      obtain ⟨r48, hc49, h⟩ := ob h
      refine r_callV1 (pc := 46) (av := [vI x1]) (S := []) dX4_vote_46 (kX4_valueReal hc49) g1 rfl mkX4_119 mwX4_valueReal rfl ⟨Nat.le_of_ble_eq_true rfl, Nat.le_of_ble_eq_true rfl⟩ (Nat.le_of_ble_eq_true rfl) ⟨Nat.le_refl _, Nat.le_refl _⟩ (fun b => b) ?_
      refine r_dstore (pc := 49) (L' := [(4, vD r48), (3, vI (1 : Int32)), (2, vI r4), (0, vR (some t)), (1, vI x1)]) dX4_vote_49 (by decide) rfl ?_
      refine r_iload_n (pc := 51) dX4_vote_51 rfl 4 rfl ?_
      refine r_istore (pc := 52) (L' := [(6, vI x1), (4, vD r48), (3, vI (1 : Int32)), (2, vI r4), (0, vR (some t)), (1, vI x1)]) dX4_vote_52 (by decide) rfl ?_
      refine r_sub [4, 5, 3, 2, 1, 0] rfl ?_
      exact wX4_vote_l54 _ _ _ _ _ _ _ _ h
abbrev WX4_passMinute (G : Gx) (l : Launch) (σ0 : Shp) (X1 : Stt) (rv : Option SV) : Stt → Nat → List (Nat × SV) → List SV → Prop := Wm G l yX4_passMinute cX4_passMinute 2 none (fun _ => True) (rmx 12 285 σ0 X1.1) σ0 (Qmx G σ0 X1 rv)
def fX4_passMinute_l12  (σ : Shp) (D : Nat → Nat → UInt64) (R : Nat → Nat → Option Nat) (t : Nat) : Nat → (Nat → Nat → Int32) → (Nat → Nat → Int64) → (Int32) → Option ((Nat → Nat → Int32) × (Nat → Nat → Int64))
  | 0, _, _, _ => none
  | n + 1, I, J, x1 =>
    if (3 : Int32) ≤ x1 then
      some (I, J)
    else
      if kdx σ t = 5 then
      (fX4_vote σ I J D R t x1).bind fun (I4, J5) =>
      (fX4_steer σ I4 J5 D R t x1).bind fun J7 =>
      (fX4_changeAir σ I4 J7 R t x1).bind fun (I9, J10) =>
      let v12 := x1 + (1 : Int32)
      fX4_passMinute_l12 σ D R t n I9 J10 v12
      else none
theorem wX4_passMinute_l12 {G : Gx} {l : Launch} {σ : Shp} {D : Nat → Nat → UInt64} {R : Nat → Nat → Option Nat} {t : Nat} {I9 : Nat → Nat → Int32} {J9 : Nat → Nat → Int64} : ∀ (n : Nat) (I : Nat → Nat → Int32) (J : Nat → Nat → Int64) (x1 : Int32), fX4_passMinute_l12 σ D R t n I J x1 = some (I9, J9) → WX4_passMinute G l σ (σ, I9, J9, D, R) none (σ, I, J, D, R) 12 [(0, vR (some t)), (1, vI x1)] [] := by
  intro n
  induction n with
  | zero =>
    intro I J x1 h
    have h : none = some _ := h
    cases h
  | succ n ih =>
    intro I J x1 h
    rw [fX4_passMinute_l12] at h
    refine r_iload_n (pc := 12) dX4_passMinute_12 rfl 1 rfl ?_
    refine r_iconst (pc := 13) dX4_passMinute_13 kc_iconst_3 ?_
    refine r_icmp_ge (pc := 14) (tgt := 38) dX4_passMinute_14 rfl (fun c => ?_) (fun c => ?_)
    · have h := it h c
      cases h
      exact r_vret dX4_passMinute_38
    · have h := ie h c
      refine r_aload_n (pc := 17) dX4_passMinute_17 rfl 0 rfl ?_
      refine r_iload_n (pc := 18) dX4_passMinute_18 rfl 1 rfl ?_
      obtain ⟨g3, h⟩ := gd h
      obtain ⟨⟨I4, J5⟩, hc6, h⟩ := ob h
      refine r_callV0 (pc := 19) (av := [vI x1]) (S := []) dX4_passMinute_19 (kX4_vote hc6) g3 rfl mkX4_89 mwX4_vote rfl ⟨Nat.le_of_ble_eq_true rfl, Nat.le_of_ble_eq_true rfl⟩ (Nat.le_of_ble_eq_true rfl) ⟨Nat.le_refl _, Nat.le_refl _⟩ (fun b => b) ?_
      refine r_aload_n (pc := 22) dX4_passMinute_22 rfl 0 rfl ?_
      refine r_iload_n (pc := 23) dX4_passMinute_23 rfl 1 rfl ?_
      obtain ⟨J7, hc8, h⟩ := ob h
      refine r_callV0 (pc := 24) (av := [vI x1]) (S := []) dX4_passMinute_24 (kX4_steer hc8) g3 rfl mkX4_93 mwX4_steer rfl ⟨Nat.le_of_ble_eq_true rfl, Nat.le_of_ble_eq_true rfl⟩ (Nat.le_of_ble_eq_true rfl) ⟨Nat.le_refl _, Nat.le_refl _⟩ (fun b => b) ?_
      refine r_aload_n (pc := 27) dX4_passMinute_27 rfl 0 rfl ?_
      refine r_iload_n (pc := 28) dX4_passMinute_28 rfl 1 rfl ?_
      obtain ⟨⟨I9, J10⟩, hc11, h⟩ := ob h
      refine r_callV0 (pc := 29) (av := [vI x1]) (S := []) dX4_passMinute_29 (kX4_changeAir hc11) g3 rfl mkX4_96 mwX4_changeAir rfl ⟨Nat.le_of_ble_eq_true rfl, Nat.le_of_ble_eq_true rfl⟩ (Nat.le_of_ble_eq_true rfl) ⟨Nat.le_refl _, Nat.le_refl _⟩ (fun b => b) ?_
      refine r_iinc (pc := 32) (v := (x1 + (1 : Int32))) (L' := [(1, vI (x1 + (1 : Int32))), (0, vR (some t))]) dX4_passMinute_32 1 rfl (kc_inc_1 _) (by decide) rfl ?_
      refine r_goto (pc := 35) (tgt := 12) dX4_passMinute_35 rfl ?_
      refine r_sub [1, 0] rfl ?_
      exact ih _ _ _ h
def fX4_passMinute (σ : Shp) (I : Nat → Nat → Int32) (J : Nat → Nat → Int64) (D : Nat → Nat → UInt64) (R : Nat → Nat → Option Nat) (t : Nat)  : Option ((Nat → Nat → Int32) × (Nat → Nat → Int64)) :=
  if kdx σ t = 5 then
  let I2 := u2 I t 13 ((I t 13) + (1 : Int32))
  fX4_passMinute_l12 σ D R t FUx I2 J (0 : Int32)
  else none
theorem kX4_passMinute {G : Gx} {l : Launch} {σ : Shp} {I : Nat → Nat → Int32} {J : Nat → Nat → Int64} {D : Nat → Nat → UInt64} {R : Nat → Nat → Option Nat} {t : Nat}  {I9 : Nat → Nat → Int32} {J9 : Nat → Nat → Int64} (h : fX4_passMinute σ I J D R t = some (I9, J9)) : Con G l yX4_passMinute cX4_passMinute 2 none 12 285 [vR (some t)] (σ, I, J, D, R) (σ, I9, J9, D, R) none := by
  unfold fX4_passMinute at h
  refine Con.mk (by decide +kernel) rfl (Nat.le_of_ble_eq_true rfl) ?_
  show WX4_passMinute G l σ (σ, I9, J9, D, R) none (σ, I, J, D, R) 0 _ []
  refine r_aload_n (pc := 0) dX4_passMinute_0 rfl 0 rfl ?_
  refine r_dup (pc := 1) dX4_passMinute_1 rfl ?_
  obtain ⟨g1, h⟩ := gd h
  refine r_getI (pc := 2) dX4_passMinute_2 fgX4_85 rfl g1 ?_
  refine r_iconst (pc := 5) dX4_passMinute_5 kc_iconst_1 ?_
  refine r_iadd (pc := 6) dX4_passMinute_6 ?_
  refine r_putI (pc := 7) dX4_passMinute_7 fwX4_85 rfl g1 ?_
  refine r_iconst (pc := 10) dX4_passMinute_10 kc_iconst_0 ?_
  refine r_istore_n (pc := 11) (L' := [(1, vI (0 : Int32)), (0, vR (some t))]) dX4_passMinute_11 rfl (by decide) rfl ?_
  refine r_sub [1, 0] rfl ?_
  exact wX4_passMinute_l12 _ _ _ _ h
