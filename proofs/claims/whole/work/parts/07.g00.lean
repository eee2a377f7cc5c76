abbrev WX0_init (G : Gx) (l : Launch) (σ0 : Shp) (X1 : Stt) (rv : Option SV) : Stt → Nat → List (Nat × SV) → List SV → Prop := Wm G l yX0_init cX0_init 1 none (fun _ => True) (rmx 1 20 σ0 X1.1) σ0 (Qmx G σ0 X1 rv)
def fX0_init_b10  (σ : Shp) (R : Nat → Nat → Option Nat) (s0 : Nat) (s1 : Nat) : Option ((Shp) × (Nat → Nat → Option Nat)) :=
  if kdx σ s0 = 1 then
  let R3 := u2 R s0 0 (some s1)
  some (σ, R3)
  else none
theorem mX0_init_b10 {σ : Shp} {R : Nat → Nat → Option Nat} {σ9 : Shp} {R9 : Nat → Nat → Option Nat} {s0 : Nat} {s1 : Nat} (h : fX0_init_b10 σ R s0 s1 = some (σ9, R9)) : Lex σ σ9 := by
  unfold fX0_init_b10 at h
  replace h := (gd h).2
  cases h
  exact ⟨Nat.le_refl _, Nat.le_refl _⟩
theorem wX0_init_b10 {G : Gx} {l : Launch} {σ0 : Shp} {σ : Shp} {I : Nat → Nat → Int32} {J : Nat → Nat → Int64} {D : Nat → Nat → UInt64} {R : Nat → Nat → Option Nat} {σ9 : Shp} {R9 : Nat → Nat → Option Nat} {s0 : Nat} {s1 : Nat} (h : fX0_init_b10 σ R s0 s1 = some (σ9, R9)) : WX0_init G l σ0 (σ9, I, J, D, R9) none (σ, I, J, D, R) 10 [] [vR (some s1), vR (some s0)] := by
  unfold fX0_init_b10 at h
  obtain ⟨g2, h⟩ := gd h
  refine r_putRF (pc := 10) dX0_init_10 fwX0_9 rfl rfl g2 ?_
  cases h
  exact r_vret dX0_init_13
def fX0_init (σ : Shp) (R : Nat → Nat → Option Nat) (t : Nat)  : Option ((Shp) × (Nat → Nat → Option Nat)) :=
  let σ1 := mkA σ 20 (Int32.toNatClampNeg (128 : Int32))
  fX0_init_b10 σ1 R t (nxx σ + 4)
theorem mX0_init {σ : Shp} {R : Nat → Nat → Option Nat} {t : Nat}  {σ9 : Shp} {R9 : Nat → Nat → Option Nat} (h : fX0_init σ R t = some (σ9, R9)) : Lex σ σ9 := by
  unfold fX0_init at h
  exact Lex_mkA (mX0_init_b10 h)
theorem kX0_init {G : Gx} {l : Launch} {σ : Shp} {I : Nat → Nat → Int32} {J : Nat → Nat → Int64} {D : Nat → Nat → UInt64} {R : Nat → Nat → Option Nat} {t : Nat}  {σ9 : Shp} {R9 : Nat → Nat → Option Nat} (h : fX0_init σ R t = some (σ9, R9)) : Con G l yX0_init cX0_init 1 none 1 20 [vR (some t)] (σ, I, J, D, R) (σ9, I, J, D, R9) none := by
  unfold fX0_init at h
  refine Con.mk (by decide +kernel) rfl (Nat.le_of_ble_eq_true rfl) ?_
  show WX0_init G l σ (σ9, I, J, D, R9) none (σ, I, J, D, R) 0 _ []
  refine r_aload_n (pc := 0) dX0_init_0 rfl 0 rfl ?_
  refine r_objInit (pc := 1) (S := []) dX0_init_1 obX0_3 obI obC (Nat.le_of_ble_eq_true rfl) (Nat.le_of_ble_eq_true rfl) (Nat.le_of_ble_eq_true rfl) ?_
  refine r_aload_n (pc := 4) dX0_init_4 rfl 0 rfl ?_
  refine r_sipush (pc := 5) dX0_init_5 kc_sipush_128 ?_
  refine r_newa (pc := 8) (t := 20) (ti := 0) (ty := .int) dX0_init_8 rfl (by decide) ac20 (by decide) (by decide) (Nat.sub_le_sub_right (mX0_init_b10 h).1 _) (Nat.sub_le_sub_right (mX0_init_b10 h).2 _) ?_
  refine r_sub [] rfl ?_
  exact wX0_init_b10 h
abbrev WX0_traceAt (G : Gx) (l : Launch) (σ0 : Shp) (X1 : Stt) (rv : Option SV) : Stt → Nat → List (Nat × SV) → List SV → Prop := Wm G l yX0_traceAt cX0_traceAt 2 (some .int) (fun _ => True) (rmx 0 0 σ0 X1.1) σ0 (Qmx G σ0 X1 rv)
def fX0_traceAt (σ : Shp) (I : Nat → Nat → Int32) (R : Nat → Nat → Option Nat) (t : Nat) (x1 : Int32) : Option ((Int32)) :=
  if x1 < 0 then
    some (-1 : Int32)
  else
    if kdx σ t = 1 then
    if (I t 1) ≤ x1 then
      some (-1 : Int32)
    else
      ((R t 0) : Option Nat).bind fun a2 =>
      if kdx σ a2 = 20 then
      if (Int32.ofNat (lnx σ a2)) ≤ x1 then
        some (-1 : Int32)
      else
        if ¬ (x1 < 0 ∨ lnx σ a2 ≤ Int32.toNatClampNeg x1) then
        some (I a2 (Int32.toNatClampNeg x1))
        else none
      else none
    else none
theorem kX0_traceAt {G : Gx} {l : Launch} {σ : Shp} {I : Nat → Nat → Int32} {J : Nat → Nat → Int64} {D : Nat → Nat → UInt64} {R : Nat → Nat → Option Nat} {t : Nat} {x1 : Int32} {r9 : Int32} (h : fX0_traceAt σ I R t x1 = some r9) : Con G l yX0_traceAt cX0_traceAt 2 (some .int) 0 0 [vR (some t), vI x1] (σ, I, J, D, R) (σ, I, J, D, R) (some (vI r9)) := by
  unfold fX0_traceAt at h
  refine Con.mk (by decide +kernel) rfl (Nat.le_of_ble_eq_true rfl) ?_
  show WX0_traceAt G l σ (σ, I, J, D, R) (some (vI r9)) (σ, I, J, D, R) 0 _ []
  refine r_iload_n (pc := 0) dX0_traceAt_0 rfl 1 rfl ?_
  refine r_if_lt (pc := 1) (tgt := 30) dX0_traceAt_1 rfl (fun c => ?_) (fun c => ?_)
  · have h := it h c
    refine r_iconst (pc := 30) dX0_traceAt_30 kc_iconst_m1 ?_
    cases h
    exact r_iret dX0_traceAt_31
  · have h := ie h c
    refine r_iload_n (pc := 4) dX0_traceAt_4 rfl 1 rfl ?_
    refine r_aload_n (pc := 5) dX0_traceAt_5 rfl 0 rfl ?_
    obtain ⟨g1, h⟩ := gd h
    refine r_getI (pc := 6) dX0_traceAt_6 fgX0_15 rfl g1 ?_
    refine r_icmp_ge (pc := 9) (tgt := 30) dX0_traceAt_9 rfl (fun c => ?_) (fun c => ?_)
    · have h := it h c
      refine r_iconst (pc := 30) dX0_traceAt_30 kc_iconst_m1 ?_
      cases h
      exact r_iret dX0_traceAt_31
    · have h := ie h c
      refine r_iload_n (pc := 12) dX0_traceAt_12 rfl 1 rfl ?_
      refine r_aload_n (pc := 13) dX0_traceAt_13 rfl 0 rfl ?_
      obtain ⟨a2, ha2, h⟩ := ob h
      refine r_getS (pc := 14) dX0_traceAt_14 fgX0_9 rfl g1 ha2 ?_
      obtain ⟨g3, h⟩ := gd h
      refine r_alen (pc := 17) dX0_traceAt_17 g3 (by decide) ?_
      refine r_icmp_ge (pc := 18) (tgt := 30) dX0_traceAt_18 rfl (fun c => ?_) (fun c => ?_)
      · have h := it h c
        refine r_iconst (pc := 30) dX0_traceAt_30 kc_iconst_m1 ?_
        cases h
        exact r_iret dX0_traceAt_31
      · have h := ie h c
        refine r_aload_n (pc := 21) dX0_traceAt_21 rfl 0 rfl ?_
        refine r_getS (pc := 22) dX0_traceAt_22 fgX0_9 rfl g1 ha2 ?_
        refine r_iload_n (pc := 25) dX0_traceAt_25 rfl 1 rfl ?_
        obtain ⟨g4, h⟩ := gd h
        refine r_iaload (pc := 26) dX0_traceAt_26 g3 g4 ?_
        refine r_goto (pc := 27) (tgt := 31) dX0_traceAt_27 rfl ?_
        cases h
        exact r_iret dX0_traceAt_31
abbrev WX0_beginAsk (G : Gx) (l : Launch) (σ0 : Shp) (X1 : Stt) (rv : Option SV) : Stt → Nat → List (Nat × SV) → List SV → Prop := Wm G l yX0_beginAsk cX0_beginAsk 1 none (fun _ => True) (rmx 0 0 σ0 X1.1) σ0 (Qmx G σ0 X1 rv)
def fX0_beginAsk (σ : Shp) (I : Nat → Nat → Int32) (t : Nat)  : Option ((Nat → Nat → Int32)) :=
  if kdx σ t = 1 then
  let I2 := u2 I t 1 (0 : Int32)
  let I3 := u2 I2 t 2 (0 : Int32)
  some I3
  else none
theorem kX0_beginAsk {G : Gx} {l : Launch} {σ : Shp} {I : Nat → Nat → Int32} {J : Nat → Nat → Int64} {D : Nat → Nat → UInt64} {R : Nat → Nat → Option Nat} {t : Nat}  {I9 : Nat → Nat → Int32} (h : fX0_beginAsk σ I t = some I9) : Con G l yX0_beginAsk cX0_beginAsk 1 none 0 0 [vR (some t)] (σ, I, J, D, R) (σ, I9, J, D, R) none := by
  unfold fX0_beginAsk at h
  refine Con.mk (by decide +kernel) rfl (Nat.le_of_ble_eq_true rfl) ?_
  show WX0_beginAsk G l σ (σ, I9, J, D, R) none (σ, I, J, D, R) 0 _ []
  refine r_aload_n (pc := 0) dX0_beginAsk_0 rfl 0 rfl ?_
  refine r_iconst (pc := 1) dX0_beginAsk_1 kc_iconst_0 ?_
  obtain ⟨g1, h⟩ := gd h
  refine r_putI (pc := 2) dX0_beginAsk_2 fwX0_15 rfl g1 ?_
  refine r_aload_n (pc := 5) dX0_beginAsk_5 rfl 0 rfl ?_
  refine r_iconst (pc := 6) dX0_beginAsk_6 kc_iconst_0 ?_
  refine r_putI (pc := 7) dX0_beginAsk_7 fwX0_19 rfl g1 ?_
  cases h
  exact r_vret dX0_beginAsk_10
abbrev WX11_thirsts (G : Gx) (l : Launch) (σ0 : Shp) (X1 : Stt) (rv : Option SV) : Stt → Nat → List (Nat × SV) → List SV → Prop := Wm G l yX11_thirsts cX11_thirsts 1 (some .boolean) (fun _ => True) (rmx 0 0 σ0 X1.1) σ0 (Qmx G σ0 X1 rv)
def fX11_thirsts  (x0 : Int32) : (Int32) :=
  if x0 = 0 then
    (0 : Int32)
  else
    if x0 = (4 : Int32) then
      (0 : Int32)
    else
      (1 : Int32)
theorem zX11_thirsts  (x0 : Int32) : fX11_thirsts x0 = 0 ∨ fX11_thirsts x0 = 1 := by
  unfold fX11_thirsts
  repeat' (first | refine itz ?_ ?_ | exact Or.inl rfl | exact Or.inr rfl)
theorem kX11_thirsts {G : Gx} {l : Launch} {σ : Shp} {I : Nat → Nat → Int32} {J : Nat → Nat → Int64} {D : Nat → Nat → UInt64} {R : Nat → Nat → Option Nat} {x0 : Int32} {r9 : Int32} (h : fX11_thirsts x0 = r9) : Con G l yX11_thirsts cX11_thirsts 1 (some .boolean) 0 0 [vI x0] (σ, I, J, D, R) (σ, I, J, D, R) (some (vI r9)) := by
  unfold fX11_thirsts at h
  refine Con.mk (by decide +kernel) rfl (Nat.le_of_ble_eq_true rfl) ?_
  show WX11_thirsts G l σ (σ, I, J, D, R) (some (vI r9)) (σ, I, J, D, R) 0 _ []
  refine r_iload_n (pc := 0) dX11_thirsts_0 rfl 0 rfl ?_
  refine r_if_eq (pc := 1) (tgt := 13) dX11_thirsts_1 rfl (fun c => ?_) (fun c => ?_)
  · have h := it h c
    refine r_iconst (pc := 13) dX11_thirsts_13 kc_iconst_0 ?_
    subst h
    exact r_zret dX11_thirsts_14 (Or.inl rfl)
  · have h := ie h c
    refine r_iload_n (pc := 4) dX11_thirsts_4 rfl 0 rfl ?_
    refine r_iconst (pc := 5) dX11_thirsts_5 kc_iconst_4 ?_
    refine r_icmp_eq (pc := 6) (tgt := 13) dX11_thirsts_6 rfl (fun c => ?_) (fun c => ?_)
    · have h := it h c
      refine r_iconst (pc := 13) dX11_thirsts_13 kc_iconst_0 ?_
      subst h
      exact r_zret dX11_thirsts_14 (Or.inl rfl)
    · have h := ie h c
      refine r_iconst (pc := 9) dX11_thirsts_9 kc_iconst_1 ?_
      refine r_goto (pc := 10) (tgt := 14) dX11_thirsts_10 rfl ?_
      subst h
      exact r_zret dX11_thirsts_14 (Or.inr rfl)
abbrev WX0_answers (G : Gx) (l : Launch) (σ0 : Shp) (X1 : Stt) (rv : Option SV) : Stt → Nat → List (Nat × SV) → List SV → Prop := Wm G l yX0_answers cX0_answers 2 (some .boolean) (fun _ => True) (rmx 1 20 σ0 X1.1) σ0 (Qmx G σ0 X1 rv)
def fX0_answers  (x0 : Int32) (x1 : Int32) : (Int32) :=
  if x1 = (1 : Int32) then
    (fX11_thirsts x0)
  else
    if x1 = (2 : Int32) then
      if x0 = (5 : Int32) then
        (0 : Int32)
      else
        (1 : Int32)
    else
      (1 : Int32)
theorem zX0_answers  (x0 : Int32) (x1 : Int32) : fX0_answers x0 x1 = 0 ∨ fX0_answers x0 x1 = 1 := by
  unfold fX0_answers
  repeat' (first | refine itz ?_ ?_ | exact Or.inl rfl | exact Or.inr rfl | exact zX11_thirsts _)
theorem kX0_answers {G : Gx} {l : Launch} {σ : Shp} {I : Nat → Nat → Int32} {J : Nat → Nat → Int64} {D : Nat → Nat → UInt64} {R : Nat → Nat → Option Nat} {x0 : Int32} {x1 : Int32} {r9 : Int32} (h : fX0_answers x0 x1 = r9) : Con G l yX0_answers cX0_answers 2 (some .boolean) 1 20 [vI x0, vI x1] (σ, I, J, D, R) (σ, I, J, D, R) (some (vI r9)) := by
  unfold fX0_answers at h
  refine Con.mk (by decide +kernel) rfl (Nat.le_of_ble_eq_true rfl) ?_
  show WX0_answers G l σ (σ, I, J, D, R) (some (vI r9)) (σ, I, J, D, R) 0 _ []
  refine r_iload_n (pc := 0) dX0_answers_0 rfl 1 rfl ?_
  refine r_iconst (pc := 1) dX0_answers_1 kc_iconst_1 ?_
  refine r_icmp_ne (pc := 2) (tgt := 10) dX0_answers_2 rfl (fun c => ?_) (fun c => ?_)
  · have h := ie h c
    refine r_iload_n (pc := 10) dX0_answers_10 rfl 1 rfl ?_
    refine r_iconst (pc := 11) dX0_answers_11 kc_iconst_2 ?_
    refine r_icmp_ne (pc := 12) (tgt := 20) dX0_answers_12 rfl (fun c => ?_) (fun c => ?_)
    · have h := ie h c
      refine r_iconst (pc := 20) dX0_answers_20 kc_iconst_1 ?_
      refine r_goto (pc := 21) (tgt := 25) dX0_answers_21 rfl ?_
      subst h
      exact r_zret dX0_answers_25 (Or.inr rfl)
    · have h := it h c
      refine r_iload_n (pc := 15) dX0_answers_15 rfl 0 rfl ?_
      refine r_iconst (pc := 16) dX0_answers_16 kc_iconst_5 ?_
      refine r_icmp_eq (pc := 17) (tgt := 24) dX0_answers_17 rfl (fun c => ?_) (fun c => ?_)
      · have h := it h c
        refine r_iconst (pc := 24) dX0_answers_24 kc_iconst_0 ?_
        subst h
        exact r_zret dX0_answers_25 (Or.inl rfl)
      · have h := ie h c
        refine r_iconst (pc := 20) dX0_answers_20 kc_iconst_1 ?_
        refine r_goto (pc := 21) (tgt := 25) dX0_answers_21 rfl ?_
        subst h
        exact r_zret dX0_answers_25 (Or.inr rfl)
  · have h := it h c
    refine r_iload_n (pc := 5) dX0_answers_5 rfl 0 rfl ?_
    refine r_callSN1 (pc := 6) (av := [vI x0]) (S := []) dX0_answers_6 (kX11_thirsts rfl) nkX0_58 mwX11_thirsts rfl ⟨Nat.le_of_ble_eq_true rfl, Nat.le_of_ble_eq_true rfl⟩ (Nat.le_of_ble_eq_true rfl) ⟨Nat.le_refl _, Nat.le_refl _⟩ (fun b => b) ?_
    subst h
    exact r_zret dX0_answers_9 (zX11_thirsts x0)
abbrev WX0_begin (G : Gx) (l : Launch) (σ0 : Shp) (X1 : Stt) (rv : Option SV) : Stt → Nat → List (Nat × SV) → List SV → Prop := Wm G l yX0_begin cX0_begin 2 none (fun _ => True) (rmx 0 0 σ0 X1.1) σ0 (Qmx G σ0 X1 rv)
def fX0_begin (σ : Shp) (I : Nat → Nat → Int32) (R : Nat → Nat → Option Nat) (t : Nat) (x1 : Int32) : Option ((Nat → Nat → Int32)) :=
  if kdx σ t = 1 then
  ((R t 0) : Option Nat).bind fun a2 =>
  if kdx σ a2 = 20 then
  if (Int32.ofNat (lnx σ a2)) ≤ (I t 1) then
    some I
  else
    if ¬ ((I t 1) < 0 ∨ lnx σ a2 ≤ Int32.toNatClampNeg (I t 1)) then
    let I5 := u2 I a2 (Int32.toNatClampNeg (I t 1)) x1
    let I6 := u2 I5 t 1 ((I5 t 1) + (1 : Int32))
    some I6
    else none
  else none
  else none
theorem kX0_begin {G : Gx} {l : Launch} {σ : Shp} {I : Nat → Nat → Int32} {J : Nat → Nat → Int64} {D : Nat → Nat → UInt64} {R : Nat → Nat → Option Nat} {t : Nat} {x1 : Int32} {I9 : Nat → Nat → Int32} (h : fX0_begin σ I R t x1 = some I9) : Con G l yX0_begin cX0_begin 2 none 0 0 [vR (some t), vI x1] (σ, I, J, D, R) (σ, I9, J, D, R) none := by
  unfold fX0_begin at h
  refine Con.mk (by decide +kernel) rfl (Nat.le_of_ble_eq_true rfl) ?_
  show WX0_begin G l σ (σ, I9, J, D, R) none (σ, I, J, D, R) 0 _ []
  refine r_aload_n (pc := 0) dX0_begin_0 rfl 0 rfl ?_
  obtain ⟨g1, h⟩ := gd h
  refine r_getI (pc := 1) dX0_begin_1 fgX0_15 rfl g1 ?_
  refine r_aload_n (pc := 4) dX0_begin_4 rfl 0 rfl ?_
  obtain ⟨a2, ha2, h⟩ := ob h
  refine r_getS (pc := 5) dX0_begin_5 fgX0_9 rfl g1 ha2 ?_
  obtain ⟨g3, h⟩ := gd h
  refine r_alen (pc := 8) dX0_begin_8 g3 (by decide) ?_
  refine r_icmp_ge (pc := 9) (tgt := 32) dX0_begin_9 rfl (fun c => ?_) (fun c => ?_)
  · have h := it h c
    cases h
    exact r_vret dX0_begin_32
  · have h := ie h c
    refine r_aload_n (pc := 12) dX0_begin_12 rfl 0 rfl ?_
    refine r_getS (pc := 13) dX0_begin_13 fgX0_9 rfl g1 ha2 ?_
    refine r_aload_n (pc := 16) dX0_begin_16 rfl 0 rfl ?_
    refine r_getI (pc := 17) dX0_begin_17 fgX0_15 rfl g1 ?_
    refine r_iload_n (pc := 20) dX0_begin_20 rfl 1 rfl ?_
    obtain ⟨g4, h⟩ := gd h
    refine r_iastore (pc := 21) dX0_begin_21 g3 g4 ?_
    refine r_aload_n (pc := 22) dX0_begin_22 rfl 0 rfl ?_
    refine r_dup (pc := 23) dX0_begin_23 rfl ?_
    refine r_getI (pc := 24) dX0_begin_24 fgX0_15 rfl g1 ?_
    refine r_iconst (pc := 27) dX0_begin_27 kc_iconst_1 ?_
    refine r_iadd (pc := 28) dX0_begin_28 ?_
    refine r_putI (pc := 29) dX0_begin_29 fwX0_15 rfl g1 ?_
    cases h
    exact r_vret dX0_begin_32
abbrev WX0_faulted (G : Gx) (l : Launch) (σ0 : Shp) (X1 : Stt) (rv : Option SV) : Stt → Nat → List (Nat × SV) → List SV → Prop := Wm G l yX0_faulted cX0_faulted 2 (some .int) (fun _ => True) (rmx 0 0 σ0 X1.1) σ0 (Qmx G σ0 X1 rv)
def fX0_faulted (σ : Shp) (I : Nat → Nat → Int32) (t : Nat) (x1 : Int32) : Option ((Nat → Nat → Int32) × (Int32)) :=
  if kdx σ t = 1 then
  let I2 := u2 I t 2 x1
  some (I2, (0 : Int32))
  else none
theorem kX0_faulted {G : Gx} {l : Launch} {σ : Shp} {I : Nat → Nat → Int32} {J : Nat → Nat → Int64} {D : Nat → Nat → UInt64} {R : Nat → Nat → Option Nat} {t : Nat} {x1 : Int32} {I9 : Nat → Nat → Int32} {r9 : Int32} (h : fX0_faulted σ I t x1 = some (I9, r9)) : Con G l yX0_faulted cX0_faulted 2 (some .int) 0 0 [vR (some t), vI x1] (σ, I, J, D, R) (σ, I9, J, D, R) (some (vI r9)) := by
  unfold fX0_faulted at h
  refine Con.mk (by decide +kernel) rfl (Nat.le_of_ble_eq_true rfl) ?_
  show WX0_faulted G l σ (σ, I9, J, D, R) (some (vI r9)) (σ, I, J, D, R) 0 _ []
  refine r_aload_n (pc := 0) dX0_faulted_0 rfl 0 rfl ?_
  refine r_iload_n (pc := 1) dX0_faulted_1 rfl 1 rfl ?_
  obtain ⟨g1, h⟩ := gd h
  refine r_putI (pc := 2) dX0_faulted_2 fwX0_19 rfl g1 ?_
  refine r_iconst (pc := 5) dX0_faulted_5 kc_iconst_0 ?_
  cases h
  exact r_iret dX0_faulted_6
abbrev WX0_costAlone (G : Gx) (l : Launch) (σ0 : Shp) (X1 : Stt) (rv : Option SV) : Stt → Nat → List (Nat × SV) → List SV → Prop := Wm G l yX0_costAlone cX0_costAlone 2 (some .int) (fun _ => True) (rmx 1 21 σ0 X1.1) σ0 (Qmx G σ0 X1 rv)
def fX0_costAlone_b14  (σ : Shp) (R : Nat → Nat → Option Nat) (t : Nat) (I : Nat → Nat → Int32) (x1 : Option Nat) : Option ((Nat → Nat → Int32) × (Int32)) :=
  if kdx σ t = 1 then
  (fX0_begin σ I R t (20 : Int32)).bind fun I4 =>
  (x1 : Option Nat).bind fun a6 =>
  if kdx σ a6 = 11 then
  if (I4 a6 5) = 0 then
    (fX0_faulted σ I4 t (6 : Int32)).bind fun (I9, r10) =>
    some (I9, r10)
  else
    if ¬ (I4 a6 5) = 0 then
    some (I4, ((5000 : Int32) / (I4 a6 5)))
    else none
  else none
  else none
theorem wX0_costAlone_b14 {G : Gx} {l : Launch} {σ : Shp} {I : Nat → Nat → Int32} {J : Nat → Nat → Int64} {D : Nat → Nat → UInt64} {R : Nat → Nat → Option Nat} {t : Nat} {I9 : Nat → Nat → Int32} {r9 : Int32} {x1 : Option Nat} (h : fX0_costAlone_b14 σ R t I x1 = some (I9, r9)) : WX0_costAlone G l σ (σ, I9, J, D, R) (some (vI r9)) (σ, I, J, D, R) 14 [(0, vR (some t)), (1, vR x1)] [] := by
  unfold fX0_costAlone_b14 at h
  refine r_aload_n (pc := 14) dX0_costAlone_14 rfl 0 rfl ?_
  refine r_bipush (pc := 15) dX0_costAlone_15 kc_bipush_20 ?_
  obtain ⟨g3, h⟩ := gd h
  obtain ⟨I4, hc5, h⟩ := ob h
  refine r_callV0 (pc := 17) (av := [vI (20 : Int32)]) (S := []) dX0_costAlone_17 (kX0_begin hc5) g3 rfl mkX0_62 mwX0_begin rfl ⟨Nat.le_of_ble_eq_true rfl, Nat.le_of_ble_eq_true rfl⟩ (Nat.le_of_ble_eq_true rfl) ⟨Nat.le_refl _, Nat.le_refl _⟩ (fun b => b) ?_
  refine r_aload_n (pc := 20) dX0_costAlone_20 rfl 1 rfl ?_
  obtain ⟨a6, ha6, h⟩ := ob h
  refine r_ref0 ha6 ?_
  obtain ⟨g7, h⟩ := gd h
  refine r_getI (pc := 21) dX0_costAlone_21 fgX0_70 rfl g7 ?_
  refine r_ifne (pc := 24) (tgt := 36) dX0_costAlone_24 rfl (fun c => ?_) (fun c => ?_)
  · have h := ie h c
    refine r_sipush (pc := 36) dX0_costAlone_36 kc_sipush_5000 ?_
    refine r_aload_n (pc := 39) dX0_costAlone_39 rfl 1 rfl ?_
    refine r_ref0 ha6 ?_
    refine r_getI (pc := 40) dX0_costAlone_40 fgX0_70 rfl g7 ?_
    obtain ⟨g8, h⟩ := gd h
    refine r_idiv (pc := 43) dX0_costAlone_43 g8 ?_
    cases h
    exact r_iret dX0_costAlone_44
  · have h := it h c
    refine r_aload_n (pc := 27) dX0_costAlone_27 rfl 0 rfl ?_
    refine r_bipush (pc := 28) dX0_costAlone_28 kc_bipush_6 ?_
    obtain ⟨⟨I9, r10⟩, hc11, h⟩ := ob h
    refine r_callV1 (pc := 30) (av := [vI (6 : Int32)]) (S := []) dX0_costAlone_30 (kX0_faulted hc11) g3 rfl mkX0_22 mwX0_faulted rfl ⟨Nat.le_of_ble_eq_true rfl, Nat.le_of_ble_eq_true rfl⟩ (Nat.le_of_ble_eq_true rfl) ⟨Nat.le_refl _, Nat.le_refl _⟩ (fun b => b) ?_
    refine r_goto (pc := 33) (tgt := 44) dX0_costAlone_33 rfl ?_
    cases h
    exact r_iret dX0_costAlone_44
def fX0_costAlone (σ : Shp) (I : Nat → Nat → Int32) (R : Nat → Nat → Option Nat) (t : Nat) (x1 : Option Nat) : Option ((Nat → Nat → Int32) × (Int32)) :=
  (x1 : Option Nat).bind fun a1 =>
  if kdx σ a1 = 11 then
  if (I a1 3) = (3 : Int32) then
    if kdx σ t = 1 then
    (fX0_begin σ I R t (21 : Int32)).bind fun I13 =>
    fX0_costAlone_b14 σ R t I13 x1
    else none
  else
    fX0_costAlone_b14 σ R t I x1
  else none
theorem kX0_costAlone {G : Gx} {l : Launch} {σ : Shp} {I : Nat → Nat → Int32} {J : Nat → Nat → Int64} {D : Nat → Nat → UInt64} {R : Nat → Nat → Option Nat} {t : Nat} {x1 : Option Nat} {I9 : Nat → Nat → Int32} {r9 : Int32} (h : fX0_costAlone σ I R t x1 = some (I9, r9)) : Con G l yX0_costAlone cX0_costAlone 2 (some .int) 1 21 [vR (some t), vR x1] (σ, I, J, D, R) (σ, I9, J, D, R) (some (vI r9)) := by
  unfold fX0_costAlone at h
  refine Con.mk (by decide +kernel) rfl (Nat.le_of_ble_eq_true rfl) ?_
  show WX0_costAlone G l σ (σ, I9, J, D, R) (some (vI r9)) (σ, I, J, D, R) 0 _ []
  refine r_aload_n (pc := 0) dX0_costAlone_0 rfl 1 rfl ?_
  obtain ⟨a1, ha1, h⟩ := ob h
  refine r_ref0 ha1 ?_
  obtain ⟨g2, h⟩ := gd h
  refine r_getI (pc := 1) dX0_costAlone_1 fgX0_31 rfl g2 ?_
  refine r_iconst (pc := 4) dX0_costAlone_4 kc_iconst_3 ?_
  refine r_icmp_ne (pc := 5) (tgt := 14) dX0_costAlone_5 rfl (fun c => ?_) (fun c => ?_)
  · have h := ie h c
    refine r_sub [0, 1] rfl ?_
    exact wX0_costAlone_b14 h
  · have h := it h c
    refine r_aload_n (pc := 8) dX0_costAlone_8 rfl 0 rfl ?_
    refine r_bipush (pc := 9) dX0_costAlone_9 kc_bipush_21 ?_
    obtain ⟨g12, h⟩ := gd h
    obtain ⟨I13, hc14, h⟩ := ob h
    refine r_callV0 (pc := 11) (av := [vI (21 : Int32)]) (S := []) dX0_costAlone_11 (kX0_begin hc14) g12 rfl mkX0_62 mwX0_begin rfl ⟨Nat.le_of_ble_eq_true rfl, Nat.le_of_ble_eq_true rfl⟩ (Nat.le_of_ble_eq_true rfl) ⟨Nat.le_refl _, Nat.le_refl _⟩ (fun b => b) ?_
    refine r_sub [0, 1] rfl ?_
    exact wX0_costAlone_b14 h
abbrev WX0_markOf (G : Gx) (l : Launch) (σ0 : Shp) (X1 : Stt) (rv : Option SV) : Stt → Nat → List (Nat × SV) → List SV → Prop := Wm G l yX0_markOf cX0_markOf 2 (some .int) (fun _ => True) (rmx 1 21 σ0 X1.1) σ0 (Qmx G σ0 X1 rv)
def fX0_markOf (σ : Shp) (I : Nat → Nat → Int32) (R : Nat → Nat → Option Nat) (t : Nat) (x1 : Option Nat) : Option ((Nat → Nat → Int32) × (Int32)) :=
  (x1 : Option Nat).bind fun a1 =>
  if kdx σ a1 = 11 then
  if (I a1 3) = (2 : Int32) then
    if kdx σ t = 1 then
    (fX0_begin σ I R t (31 : Int32)).bind fun I4 =>
    some (I4, ((9 : Int32) + (I4 a1 6)))
    else none
  else
    if kdx σ t = 1 then
    (fX0_begin σ I R t (30 : Int32)).bind fun I7 =>
    some (I7, (7 : Int32))
    else none
  else none
theorem kX0_markOf {G : Gx} {l : Launch} {σ : Shp} {I : Nat → Nat → Int32} {J : Nat → Nat → Int64} {D : Nat → Nat → UInt64} {R : Nat → Nat → Option Nat} {t : Nat} {x1 : Option Nat} {I9 : Nat → Nat → Int32} {r9 : Int32} (h : fX0_markOf σ I R t x1 = some (I9, r9)) : Con G l yX0_markOf cX0_markOf 2 (some .int) 1 21 [vR (some t), vR x1] (σ, I, J, D, R) (σ, I9, J, D, R) (some (vI r9)) := by
  unfold fX0_markOf at h
  refine Con.mk (by decide +kernel) rfl (Nat.le_of_ble_eq_true rfl) ?_
  show WX0_markOf G l σ (σ, I9, J, D, R) (some (vI r9)) (σ, I, J, D, R) 0 _ []
  refine r_aload_n (pc := 0) dX0_markOf_0 rfl 1 rfl ?_
  obtain ⟨a1, ha1, h⟩ := ob h
  refine r_ref0 ha1 ?_
  obtain ⟨g2, h⟩ := gd h
  refine r_getI (pc := 1) dX0_markOf_1 fgX0_31 rfl g2 ?_
  refine r_iconst (pc := 4) dX0_markOf_4 kc_iconst_2 ?_
  refine r_icmp_eq (pc := 5) (tgt := 17) dX0_markOf_5 rfl (fun c => ?_) (fun c => ?_)
  · have h := it h c
    refine r_aload_n (pc := 17) dX0_markOf_17 rfl 0 rfl ?_
    refine r_bipush (pc := 18) dX0_markOf_18 kc_bipush_31 ?_
    obtain ⟨g3, h⟩ := gd h
    obtain ⟨I4, hc5, h⟩ := ob h
    refine r_callV0 (pc := 20) (av := [vI (31 : Int32)]) (S := []) dX0_markOf_20 (kX0_begin hc5) g3 rfl mkX0_62 mwX0_begin rfl ⟨Nat.le_of_ble_eq_true rfl, Nat.le_of_ble_eq_true rfl⟩ (Nat.le_of_ble_eq_true rfl) ⟨Nat.le_refl _, Nat.le_refl _⟩ (fun b => b) ?_
    refine r_bipush (pc := 23) dX0_markOf_23 kc_bipush_9 ?_
    refine r_aload_n (pc := 25) dX0_markOf_25 rfl 1 rfl ?_
    refine r_ref0 ha1 ?_
    refine r_getI (pc := 26) dX0_markOf_26 fgX0_73 rfl g2 ?_
    refine r_iadd (pc := 29) dX0_markOf_29 ?_
    cases h
    exact r_iret dX0_markOf_30
  · have h := ie h c
    refine r_aload_n (pc := 8) dX0_markOf_8 rfl 0 rfl ?_
    refine r_bipush (pc := 9) dX0_markOf_9 kc_bipush_30 ?_
    obtain ⟨g6, h⟩ := gd h
    obtain ⟨I7, hc8, h⟩ := ob h
    refine r_callV0 (pc := 11) (av := [vI (30 : Int32)]) (S := []) dX0_markOf_11 (kX0_begin hc8) g6 rfl mkX0_62 mwX0_begin rfl ⟨Nat.le_of_ble_eq_true rfl, Nat.le_of_ble_eq_true rfl⟩ (Nat.le_of_ble_eq_true rfl) ⟨Nat.le_refl _, Nat.le_refl _⟩ (fun b => b) ?_
    refine r_bipush (pc := 14) dX0_markOf_14 kc_bipush_7 ?_
    cases h
    exact r_iret dX0_markOf_16
abbrev WX0_sizeOf (G : Gx) (l : Launch) (dn wn : Nat) (σ0 : Shp) (X1 : Stt) (rv : Option SV) : Stt → Nat → List (Nat × SV) → List SV → Prop := Wm G l yX0_sizeOf cX0_sizeOf 5 (some .int) (fun _ => True) (rmx dn wn σ0 X1.1) σ0 (Qmx G σ0 X1 rv)
def fX0_sizeOf_b98 (fr : (Shp) → (Nat → Nat → Int32) → (Nat → Nat → Option Nat) → (Nat) → (Option Nat) → (Int32) → Option ((Nat → Nat → Int32) × (Int32)))  (σ : Shp) (R : Nat → Nat → Option Nat) (t : Nat) (I : Nat → Nat → Int32) (x1 : Option Nat) (x3 : Int32) : Option ((Nat → Nat → Int32) × (Int32)) :=
  if kdx σ t = 1 then
  (fX0_begin σ I R t (2 : Int32)).bind fun I10 =>
  (fX0_begin σ I10 R t (1 : Int32)).bind fun I12 =>
  (x1 : Option Nat).bind fun a14 =>
  if kdx σ a14 = 11 then
  some (I12, ((x3 + ((2 : Int32) * (I12 a14 5))) + (I12 a14 6)))
  else none
  else none
theorem wX0_sizeOf_b98 {G : Gx} {l : Launch} {dn wn dr wr : Nat} {σ : Shp} {I : Nat → Nat → Int32} {J : Nat → Nat → Int64} {D : Nat → Nat → UInt64} {R : Nat → Nat → Option Nat} {t : Nat} {I9 : Nat → Nat → Int32} {r9 : Int32} {x1 : Option Nat} {x3 : Int32} {fr : (Shp) → (Nat → Nat → Int32) → (Nat → Nat → Option Nat) → (Nat) → (Option Nat) → (Int32) → Option ((Nat → Nat → Int32) × (Int32))} (hdr : dr + 1 ≤ dn ∧ 24 + wr ≤ wn ∧ 1 ≤ dn ∧ 21 ≤ wn) (ihn : ∀ {σ : Shp} {I : Nat → Nat → Int32} {J : Nat → Nat → Int64} {D : Nat → Nat → UInt64} {R : Nat → Nat → Option Nat} {t : Nat} {x1 : Option Nat} {x2 : Int32} {I9 : Nat → Nat → Int32} {r9 : Int32}, fr σ I R t x1 x2 = some (I9, r9) → Con G l yX0_sizeOf cX0_sizeOf 5 (some .int) dr wr [vR (some t), vR x1, vI x2] (σ, I, J, D, R) (σ, I9, J, D, R) (some (vI r9))) (h : fX0_sizeOf_b98 fr σ R t I x1 x3 = some (I9, r9)) : WX0_sizeOf G l dn wn σ (σ, I9, J, D, R) (some (vI r9)) (σ, I, J, D, R) 98 [(0, vR (some t)), (1, vR x1), (3, vI x3)] [] := by
  unfold fX0_sizeOf_b98 at h
  refine r_aload_n (pc := 98) dX0_sizeOf_98 rfl 0 rfl ?_
  refine r_iconst (pc := 99) dX0_sizeOf_99 kc_iconst_2 ?_
  obtain ⟨g9, h⟩ := gd h
  obtain ⟨I10, hc11, h⟩ := ob h
  refine r_callV0 (pc := 100) (av := [vI (2 : Int32)]) (S := []) dX0_sizeOf_100 (kX0_begin hc11) g9 rfl mkX0_62 mwX0_begin rfl ⟨by simp only [rmx]; omega, by simp only [rmx]; omega⟩ (Nat.le_of_ble_eq_true rfl) ⟨Nat.le_refl _, Nat.le_refl _⟩ (fun b => b) ?_
  refine r_aload_n (pc := 103) dX0_sizeOf_103 rfl 0 rfl ?_
  refine r_iconst (pc := 104) dX0_sizeOf_104 kc_iconst_1 ?_
  obtain ⟨I12, hc13, h⟩ := ob h
  refine r_callV0 (pc := 105) (av := [vI (1 : Int32)]) (S := []) dX0_sizeOf_105 (kX0_begin hc13) g9 rfl mkX0_62 mwX0_begin rfl ⟨by simp only [rmx]; omega, by simp only [rmx]; omega⟩ (Nat.le_of_ble_eq_true rfl) ⟨Nat.le_refl _, Nat.le_refl _⟩ (fun b => b) ?_
  refine r_iload_n (pc := 108) dX0_sizeOf_108 rfl 2 rfl ?_
  refine r_iconst (pc := 109) dX0_sizeOf_109 kc_iconst_2 ?_
  refine r_aload_n (pc := 110) dX0_sizeOf_110 rfl 1 rfl ?_
  obtain ⟨a14, ha14, h⟩ := ob h
  refine r_ref0 ha14 ?_
  obtain ⟨g15, h⟩ := gd h
  refine r_getI (pc := 111) dX0_sizeOf_111 fgX0_70 rfl g15 ?_
  refine r_imul (pc := 114) dX0_sizeOf_114 ?_
  refine r_iadd (pc := 115) dX0_sizeOf_115 ?_
  refine r_aload_n (pc := 116) dX0_sizeOf_116 rfl 1 rfl ?_
  refine r_ref0 ha14 ?_
  refine r_getI (pc := 117) dX0_sizeOf_117 fgX0_73 rfl g15 ?_
  refine r_iadd (pc := 120) dX0_sizeOf_120 ?_
  cases h
  exact r_iret dX0_sizeOf_121
def fX0_sizeOf_b82 (fr : (Shp) → (Nat → Nat → Int32) → (Nat → Nat → Option Nat) → (Nat) → (Option Nat) → (Int32) → Option ((Nat → Nat → Int32) × (Int32)))  (σ : Shp) (R : Nat → Nat → Option Nat) (t : Nat) (I : Nat → Nat → Int32) (x1 : Option Nat) (x3 : Int32) : Option ((Nat → Nat → Int32) × (Int32)) :=
  (x1 : Option Nat).bind fun a7 =>
  if kdx σ a7 = 11 then
  if (I a7 3) = (1 : Int32) then
    fX0_sizeOf_b98 fr σ R t I x1 x3
  else
    if (I a7 3) = (2 : Int32) then
      fX0_sizeOf_b98 fr σ R t I x1 x3
    else
      if (I a7 3) = (3 : Int32) then
        if kdx σ t = 1 then
        (fX0_begin σ I R t (4 : Int32)).bind fun I20 =>
        (fX0_begin σ I20 R t (1 : Int32)).bind fun I22 =>
        if (I22 a7 6) = 0 then
          (fX0_faulted σ I22 t (6 : Int32)).bind fun (I25, r26) =>
          some (I25, r26)
        else
          if ¬ (I22 a7 6) = 0 then
          some (I22, ((I22 a7 5) / (I22 a7 6)))
          else none
        else none
      else
        if kdx σ t = 1 then
        (fX0_begin σ I R t (1 : Int32)).bind fun I17 =>
        some (I17, (I17 a7 5))
        else none
  else none
theorem wX0_sizeOf_b82 {G : Gx} {l : Launch} {dn wn dr wr : Nat} {σ : Shp} {I : Nat → Nat → Int32} {J : Nat → Nat → Int64} {D : Nat → Nat → UInt64} {R : Nat → Nat → Option Nat} {t : Nat} {I9 : Nat → Nat → Int32} {r9 : Int32} {x1 : Option Nat} {x3 : Int32} {fr : (Shp) → (Nat → Nat → Int32) → (Nat → Nat → Option Nat) → (Nat) → (Option Nat) → (Int32) → Option ((Nat → Nat → Int32) × (Int32))} (hdr : dr + 1 ≤ dn ∧ 24 + wr ≤ wn ∧ 1 ≤ dn ∧ 21 ≤ wn) (ihn : ∀ {σ : Shp} {I : Nat → Nat → Int32} {J : Nat → Nat → Int64} {D : Nat → Nat → UInt64} {R : Nat → Nat → Option Nat} {t : Nat} {x1 : Option Nat} {x2 : Int32} {I9 : Nat → Nat → Int32} {r9 : Int32}, fr σ I R t x1 x2 = some (I9, r9) → Con G l yX0_sizeOf cX0_sizeOf 5 (some .int) dr wr [vR (some t), vR x1, vI x2] (σ, I, J, D, R) (σ, I9, J, D, R) (some (vI r9))) (h : fX0_sizeOf_b82 fr σ R t I x1 x3 = some (I9, r9)) : WX0_sizeOf G l dn wn σ (σ, I9, J, D, R) (some (vI r9)) (σ, I, J, D, R) 82 [(0, vR (some t)), (1, vR x1), (3, vI x3)] [] := by
  unfold fX0_sizeOf_b82 at h
  refine r_aload_n (pc := 82) dX0_sizeOf_82 rfl 1 rfl ?_
  obtain ⟨a7, ha7, h⟩ := ob h
  refine r_ref0 ha7 ?_
  obtain ⟨g8, h⟩ := gd h
  refine r_getI (pc := 83) dX0_sizeOf_83 fgX0_31 rfl g8 ?_
  refine r_iconst (pc := 86) dX0_sizeOf_86 kc_iconst_1 ?_
  refine r_icmp_eq (pc := 87) (tgt := 98) dX0_sizeOf_87 rfl (fun c => ?_) (fun c => ?_)
  · have h := it h c
    refine r_sub [0, 1, 2] rfl ?_
    exact wX0_sizeOf_b98 hdr ihn h
  · have h := ie h c
    refine r_aload_n (pc := 90) dX0_sizeOf_90 rfl 1 rfl ?_
    refine r_ref0 ha7 ?_
    refine r_getI (pc := 91) dX0_sizeOf_91 fgX0_31 rfl g8 ?_
    refine r_iconst (pc := 94) dX0_sizeOf_94 kc_iconst_2 ?_
    refine r_icmp_ne (pc := 95) (tgt := 122) dX0_sizeOf_95 rfl (fun c => ?_) (fun c => ?_)
    · have h := ie h c
      refine r_aload_n (pc := 122) dX0_sizeOf_122 rfl 1 rfl ?_
      refine r_ref0 ha7 ?_
      refine r_getI (pc := 123) dX0_sizeOf_123 fgX0_31 rfl g8 ?_
      refine r_iconst (pc := 126) dX0_sizeOf_126 kc_iconst_3 ?_
      refine r_icmp_ne (pc := 127) (tgt := 166) dX0_sizeOf_127 rfl (fun c => ?_) (fun c => ?_)
      · have h := ie h c
        refine r_aload_n (pc := 166) dX0_sizeOf_166 rfl 0 rfl ?_
        refine r_iconst (pc := 167) dX0_sizeOf_167 kc_iconst_1 ?_
        obtain ⟨g16, h⟩ := gd h
        obtain ⟨I17, hc18, h⟩ := ob h
        refine r_callV0 (pc := 168) (av := [vI (1 : Int32)]) (S := []) dX0_sizeOf_168 (kX0_begin hc18) g16 rfl mkX0_62 mwX0_begin rfl ⟨by simp only [rmx]; omega, by simp only [rmx]; omega⟩ (Nat.le_of_ble_eq_true rfl) ⟨Nat.le_refl _, Nat.le_refl _⟩ (fun b => b) ?_
        refine r_aload_n (pc := 171) dX0_sizeOf_171 rfl 1 rfl ?_
        refine r_ref0 ha7 ?_
        refine r_getI (pc := 172) dX0_sizeOf_172 fgX0_70 rfl g8 ?_
        cases h
        exact r_iret dX0_sizeOf_175
      · have h := it h c
        refine r_aload_n (pc := 130) dX0_sizeOf_130 rfl 0 rfl ?_
        refine r_iconst (pc := 131) dX0_sizeOf_131 kc_iconst_4 ?_
        obtain ⟨g19, h⟩ := gd h
        obtain ⟨I20, hc21, h⟩ := ob h
        refine r_callV0 (pc := 132) (av := [vI (4 : Int32)]) (S := []) dX0_sizeOf_132 (kX0_begin hc21) g19 rfl mkX0_62 mwX0_begin rfl ⟨by simp only [rmx]; omega, by simp only [rmx]; omega⟩ (Nat.le_of_ble_eq_true rfl) ⟨Nat.le_refl _, Nat.le_refl _⟩ (fun b => b) ?_
        refine r_aload_n (pc := 135) dX0_sizeOf_135 rfl 0 rfl ?_
        refine r_iconst (pc := 136) dX0_sizeOf_136 kc_iconst_1 ?_
        obtain ⟨I22, hc23, h⟩ := ob h
        refine r_callV0 (pc := 137) (av := [vI (1 : Int32)]) (S := []) dX0_sizeOf_137 (kX0_begin hc23) g19 rfl mkX0_62 mwX0_begin rfl ⟨by simp only [rmx]; omega, by simp only [rmx]; omega⟩ (Nat.le_of_ble_eq_true rfl) ⟨Nat.le_refl _, Nat.le_refl _⟩ (fun b => b) ?_
        refine r_aload_n (pc := 140) dX0_sizeOf_140 rfl 1 rfl ?_
        refine r_ref0 ha7 ?_
        refine r_getI (pc := 141) dX0_sizeOf_141 fgX0_73 rfl g8 ?_
        refine r_ifne (pc := 144) (tgt := 156) dX0_sizeOf_144 rfl (fun c => ?_) (fun c => ?_)
        · have h := ie h c
          refine r_aload_n (pc := 156) dX0_sizeOf_156 rfl 1 rfl ?_
          refine r_ref0 ha7 ?_
          refine r_getI (pc := 157) dX0_sizeOf_157 fgX0_70 rfl g8 ?_
          refine r_aload_n (pc := 160) dX0_sizeOf_160 rfl 1 rfl ?_
          refine r_ref0 ha7 ?_
          refine r_getI (pc := 161) dX0_sizeOf_161 fgX0_73 rfl g8 ?_
          obtain ⟨g24, h⟩ := gd h
          refine r_idiv (pc := 164) dX0_sizeOf_164 g24 ?_
          cases h
          exact r_iret dX0_sizeOf_165
        · have h := it h c
          refine r_aload_n (pc := 147) dX0_sizeOf_147 rfl 0 rfl ?_
          refine r_bipush (pc := 148) dX0_sizeOf_148 kc_bipush_6 ?_
          obtain ⟨⟨I25, r26⟩, hc27, h⟩ := ob h
          refine r_callV1 (pc := 150) (av := [vI (6 : Int32)]) (S := []) dX0_sizeOf_150 (kX0_faulted hc27) g19 rfl mkX0_22 mwX0_faulted rfl ⟨by simp only [rmx]; omega, by simp only [rmx]; omega⟩ (Nat.le_of_ble_eq_true rfl) ⟨Nat.le_refl _, Nat.le_refl _⟩ (fun b => b) ?_
          refine r_goto (pc := 153) (tgt := 165) dX0_sizeOf_153 rfl ?_
          cases h
          exact r_iret dX0_sizeOf_165
    · have h := it h c
      refine r_sub [0, 1, 2] rfl ?_
      exact wX0_sizeOf_b98 hdr ihn h
def fX0_sizeOf_l33 (fr : (Shp) → (Nat → Nat → Int32) → (Nat → Nat → Option Nat) → (Nat) → (Option Nat) → (Int32) → Option ((Nat → Nat → Int32) × (Int32)))  (σ : Shp) (R : Nat → Nat → Option Nat) (t : Nat) : Nat → (Nat → Nat → Int32) → (Option Nat) → (Int32) → (Int32) → (Int32) → Option ((Nat → Nat → Int32) × (Int32))
  | 0, _, _, _, _, _ => none
  | n + 1, I, x1, x2, x3, x4 =>
    (x1 : Option Nat).bind fun a31 =>
    if kdx σ a31 = 11 then
    ((R a31 2) : Option Nat).bind fun a33 =>
    if kdx σ a33 = 26 then
    if (Int32.ofNat (lnx σ a33)) ≤ x4 then
      if kdx σ t = 1 then
      if (I t 2) = 0 then
        fX0_sizeOf_b82 fr σ R t I x1 x3
      else
        some (I, (0 : Int32))
      else none
    else
      if kdx σ t = 1 then
      if (I t 2) = 0 then
        if ¬ (x4 < 0 ∨ lnx σ a33 ≤ Int32.toNatClampNeg x4) then
        (fr σ I R t (R a33 (Int32.toNatClampNeg x4)) (x2 + (1 : Int32))).bind fun (I38, r39) =>
        let v41 := (x3 + r39)
        let v42 := x4 + (1 : Int32)
        fX0_sizeOf_l33 fr σ R t n I38 x1 x2 v41 v42
        else none
      else
        if (I t 2) = 0 then
          fX0_sizeOf_b82 fr σ R t I x1 x3
        else
          some (I, (0 : Int32))
      else none
    else none
    else none
theorem wX0_sizeOf_l33 {G : Gx} {l : Launch} {dn wn dr wr : Nat} {σ : Shp} {J : Nat → Nat → Int64} {D : Nat → Nat → UInt64} {R : Nat → Nat → Option Nat} {t : Nat} {I9 : Nat → Nat → Int32} {r9 : Int32} {fr : (Shp) → (Nat → Nat → Int32) → (Nat → Nat → Option Nat) → (Nat) → (Option Nat) → (Int32) → Option ((Nat → Nat → Int32) × (Int32))} (hdr : dr + 1 ≤ dn ∧ 24 + wr ≤ wn ∧ 1 ≤ dn ∧ 21 ≤ wn) (ihn : ∀ {σ : Shp} {I : Nat → Nat → Int32} {J : Nat → Nat → Int64} {D : Nat → Nat → UInt64} {R : Nat → Nat → Option Nat} {t : Nat} {x1 : Option Nat} {x2 : Int32} {I9 : Nat → Nat → Int32} {r9 : Int32}, fr σ I R t x1 x2 = some (I9, r9) → Con G l yX0_sizeOf cX0_sizeOf 5 (some .int) dr wr [vR (some t), vR x1, vI x2] (σ, I, J, D, R) (σ, I9, J, D, R) (some (vI r9))) : ∀ (n : Nat) (I : Nat → Nat → Int32) (x1 : Option Nat) (x2 : Int32) (x3 : Int32) (x4 : Int32), fX0_sizeOf_l33 fr σ R t n I x1 x2 x3 x4 = some (I9, r9) → WX0_sizeOf G l dn wn σ (σ, I9, J, D, R) (some (vI r9)) (σ, I, J, D, R) 33 [(0, vR (some t)), (1, vR x1), (2, vI x2), (3, vI x3), (4, vI x4)] [] := by
  intro n
  induction n with
  | zero =>
    intro I x1 x2 x3 x4 h
    have h : none = some _ := h
    cases h
  | succ n ih =>
    intro I x1 x2 x3 x4 h
    rw [fX0_sizeOf_l33] at h
    refine r_iload (pc := 33) dX0_sizeOf_33 4 rfl ?_
    refine r_aload_n (pc := 35) dX0_sizeOf_35 rfl 1 rfl ?_
    obtain ⟨a31, ha31, h⟩ := ob h
    refine r_ref0 ha31 ?_
    obtain ⟨g32, h⟩ := gd h
    obtain ⟨a33, ha33, h⟩ := ob h
    refine r_getS (pc := 36) dX0_sizeOf_36 fgX0_66 rfl g32 ha33 ?_
    obtain ⟨g34, h⟩ := gd h
    refine r_alen (pc := 39) dX0_sizeOf_39 g34 (by decide) ?_
    refine r_icmp_ge (pc := 40) (tgt := 73) dX0_sizeOf_40 rfl (fun c => ?_) (fun c => ?_)
    · have h := it h c
      refine r_aload_n (pc := 73) dX0_sizeOf_73 rfl 0 rfl ?_
      obtain ⟨g35, h⟩ := gd h
      refine r_getI (pc := 74) dX0_sizeOf_74 fgX0_19 rfl g35 ?_
      refine r_if_eq (pc := 77) (tgt := 82) dX0_sizeOf_77 rfl (fun c => ?_) (fun c => ?_)
      · have h := it h c
        refine r_sub [0, 1, 3] rfl ?_
        exact wX0_sizeOf_b82 hdr ihn h
      · have h := ie h c
        refine r_iconst (pc := 80) dX0_sizeOf_80 kc_iconst_0 ?_
        cases h
        exact r_iret dX0_sizeOf_81
    · have h := ie h c
      refine r_aload_n (pc := 43) dX0_sizeOf_43 rfl 0 rfl ?_
      obtain ⟨g36, h⟩ := gd h
      refine r_getI (pc := 44) dX0_sizeOf_44 fgX0_19 rfl g36 ?_
      refine r_ifne (pc := 47) (tgt := 73) dX0_sizeOf_47 rfl (fun c => ?_) (fun c => ?_)
      · have h := ie h c
        refine r_aload_n (pc := 73) dX0_sizeOf_73 rfl 0 rfl ?_
        refine r_getI (pc := 74) dX0_sizeOf_74 fgX0_19 rfl g36 ?_
        refine r_if_eq (pc := 77) (tgt := 82) dX0_sizeOf_77 rfl (fun c => ?_) (fun c => ?_)
        · have h := it h c
          refine r_sub [0, 1, 3] rfl ?_
          exact wX0_sizeOf_b82 hdr ihn h
        · have h := ie h c
          refine r_iconst (pc := 80) dX0_sizeOf_80 kc_iconst_0 ?_
          cases h
          exact r_iret dX0_sizeOf_81
      · have h := it h c
        refine r_iload_n (pc := 50) dX0_sizeOf_50 rfl 3 rfl ?_
        refine r_aload_n (pc := 51) dX0_sizeOf_51 rfl 0 rfl ?_
        refine r_aload_n (pc := 52) dX0_sizeOf_52 rfl 1 rfl ?_
        refine r_ref0 ha31 ?_
        refine r_getS (pc := 53) dX0_sizeOf_53 fgX0_66 rfl g32 ha33 ?_
        refine r_iload (pc := 56) dX0_sizeOf_56 4 rfl ?_
        obtain ⟨g37, h⟩ := gd h
        refine r_aaload (pc := 58) dX0_sizeOf_58 g34 (by decide) g37 ?_
        refine r_iload_n (pc := 59) dX0_sizeOf_59 rfl 2 rfl ?_
        refine r_iconst (pc := 60) dX0_sizeOf_60 kc_iconst_1 ?_
        refine r_iadd (pc := 61) dX0_sizeOf_61 ?_
        obtain ⟨⟨I38, r39⟩, hc40, h⟩ := ob h
        refine r_callV1 (pc := 62) (av := [vR (R a33 (Int32.toNatClampNeg x4)), vI (x2 + (1 : Int32))]) (S := [vI x3]) dX0_sizeOf_62 (ihn hc40) g36 rfl mkX0_45 mwX0_sizeOf rfl ⟨by simp only [rmx]; omega, by simp only [rmx]; omega⟩ (Nat.le_of_ble_eq_true rfl) ⟨Nat.le_refl _, Nat.le_refl _⟩ (fun b => b) ?_
        refine r_iadd (pc := 65) dX0_sizeOf_65 ?_
        refine r_istore_n (pc := 66) (L' := [(3, vI (x3 + r39)), (0, vR (some t)), (1, vR x1), (2, vI x2), (4, vI x4)]) dX0_sizeOf_66 rfl (by decide) rfl ?_
        refine r_iinc (pc := 67) (v := (x4 + (1 : Int32))) (L' := [(4, vI (x4 + (1 : Int32))), (3, vI (x3 + r39)), (0, vR (some t)), (1, vR x1), (2, vI x2)]) dX0_sizeOf_67 4 rfl (kc_inc_1 _) (by decide) rfl ?_
        refine r_goto (pc := 70) (tgt := 33) dX0_sizeOf_70 rfl ?_
        refine r_sub [2, 3, 4, 1, 0] rfl ?_
        exact ih _ _ _ _ _ h
def fX0_sizeOf : Nat → (Shp) → (Nat → Nat → Int32) → (Nat → Nat → Option Nat) → (Nat) → (Option Nat) → (Int32) → Option ((Nat → Nat → Int32) × (Int32))
  | 0, _, _, _, _, _, _ => none
  | n + 1, σ, I, R, t, x1, x2 =>
    onl x1
      (
        if kdx σ t = 1 then
        (fX0_faulted σ I t (1 : Int32)).bind fun (I3, r4) =>
        some (I3, r4)
        else none)
      (fun a1 =>
        if x2 ≤ (4 : Int32) then
          if kdx σ a1 = 11 then
          if (I a1 3) = (2 : Int32) then
            if kdx σ t = 1 then
            (fX0_begin σ I R t (3 : Int32)).bind fun I29 =>
            fX0_sizeOf_l33 (fX0_sizeOf n) σ R t FUx I29 x1 x2 (0 : Int32) (0 : Int32)
            else none
          else
            fX0_sizeOf_b82 (fX0_sizeOf n) σ R t I x1 (0 : Int32)
          else none
        else
          if kdx σ t = 1 then
          (fX0_faulted σ I t (1 : Int32)).bind fun (I44, r45) =>
          some (I44, r45)
          else none)
theorem kX0_sizeOf {G : Gx} {l : Launch} : ∀ (n : Nat) {σ : Shp} {I : Nat → Nat → Int32} {J : Nat → Nat → Int64} {D : Nat → Nat → UInt64} {R : Nat → Nat → Option Nat} {t : Nat} {x1 : Option Nat} {x2 : Int32} {I9 : Nat → Nat → Int32} {r9 : Int32}, fX0_sizeOf n σ I R t x1 x2 = some (I9, r9) → Con G l yX0_sizeOf cX0_sizeOf 5 (some .int) (1 + n) (21 + 24 * n) [vR (some t), vR x1, vI x2] (σ, I, J, D, R) (σ, I9, J, D, R) (some (vI r9)) := by
  intro n
  induction n with
  | zero =>
    intro σ I J D R t x1 x2 I9 r9 h
    have h : none = some _ := h
    cases h
  | succ n ihn =>
    intro σ I J D R t x1 x2 I9 r9 h
    rw [fX0_sizeOf] at h
    have hdr : 1 + n + 1 ≤ 1 + (n + 1) ∧ 24 + (21 + 24 * n) ≤ 21 + 24 * (n + 1) ∧ 1 ≤ 1 + (n + 1) ∧ 21 ≤ 21 + 24 * (n + 1) := by omega
    refine Con.mk (by decide +kernel) rfl (Nat.le_of_ble_eq_true rfl) ?_
    show WX0_sizeOf G l (1 + (n + 1)) (21 + 24 * (n + 1)) σ (σ, I9, J, D, R) (some (vI r9)) (σ, I, J, D, R) 0 _ []
    refine r_aload_n (pc := 0) dX0_sizeOf_0 rfl 1 rfl ?_
    rcases onl_c h with ⟨ea1, h⟩ | ⟨a1, ha1, h⟩
    · refine r_ref0n ea1 ?_
      refine r_ifnull_n (pc := 1) (tgt := 9) dX0_sizeOf_1 rfl ?_
      refine r_aload_n (pc := 9) dX0_sizeOf_9 rfl 0 rfl ?_
      refine r_iconst (pc := 10) dX0_sizeOf_10 kc_iconst_1 ?_
      obtain ⟨g2, h⟩ := gd h
      obtain ⟨⟨I3, r4⟩, hc5, h⟩ := ob h
      refine r_callV1 (pc := 11) (av := [vI (1 : Int32)]) (S := []) dX0_sizeOf_11 (kX0_faulted hc5) g2 rfl mkX0_22 mwX0_faulted rfl ⟨by simp only [rmx]; omega, by simp only [rmx]; omega⟩ (Nat.le_of_ble_eq_true rfl) ⟨Nat.le_refl _, Nat.le_refl _⟩ (fun b => b) ?_
      cases h
      exact r_iret dX0_sizeOf_14
    · refine r_ref0 ha1 ?_
      refine r_ifnull_s (pc := 1) dX0_sizeOf_1 ?_
      refine r_iload_n (pc := 4) dX0_sizeOf_4 rfl 2 rfl ?_
      refine r_iconst (pc := 5) dX0_sizeOf_5 kc_iconst_4 ?_
      refine r_icmp_le (pc := 6) (tgt := 15) dX0_sizeOf_6 rfl (fun c => ?_) (fun c => ?_)
      · have h := it h c
        refine r_iconst (pc := 15) dX0_sizeOf_15 kc_iconst_0 ?_
        refine r_istore_n (pc := 16) (L' := [(3, vI (0 : Int32)), (0, vR (some t)), (1, vR x1), (2, vI x2)]) dX0_sizeOf_16 rfl (by decide) rfl ?_
        refine r_aload_n (pc := 17) dX0_sizeOf_17 rfl 2 rfl ?_
        refine r_ref0 ha1 ?_
        obtain ⟨g6, h⟩ := gd h
        refine r_getI (pc := 18) dX0_sizeOf_18 fgX0_31 rfl g6 ?_
        refine r_iconst (pc := 21) dX0_sizeOf_21 kc_iconst_2 ?_
        refine r_icmp_ne (pc := 22) (tgt := 82) dX0_sizeOf_22 rfl (fun c => ?_) (fun c => ?_)
        · have h := ie h c
          refine r_sub [1, 2, 0] rfl ?_
          exact wX0_sizeOf_b82 hdr ihn h
        · have h := it h c
          refine r_aload_n (pc := 25) dX0_sizeOf_25 rfl 1 rfl ?_
          refine r_iconst (pc := 26) dX0_sizeOf_26 kc_iconst_3 ?_
          obtain ⟨g28, h⟩ := gd h
          obtain ⟨I29, hc30, h⟩ := ob h
          refine r_callV0 (pc := 27) (av := [vI (3 : Int32)]) (S := []) dX0_sizeOf_27 (kX0_begin hc30) g28 rfl mkX0_62 mwX0_begin rfl ⟨by simp only [rmx]; omega, by simp only [rmx]; omega⟩ (Nat.le_of_ble_eq_true rfl) ⟨Nat.le_refl _, Nat.le_refl _⟩ (fun b => b) ?_
          refine r_iconst (pc := 30) dX0_sizeOf_30 kc_iconst_0 ?_
          refine r_istore (pc := 31) (L' := [(4, vI (0 : Int32)), (3, vI (0 : Int32)), (0, vR (some t)), (1, vR x1), (2, vI x2)]) dX0_sizeOf_31 (by decide) rfl ?_
          refine r_sub [2, 3, 4, 1, 0] rfl ?_
          exact wX0_sizeOf_l33 hdr ihn _ _ _ _ _ _ h
      · have h := ie h c
        refine r_aload_n (pc := 9) dX0_sizeOf_9 rfl 0 rfl ?_
        refine r_iconst (pc := 10) dX0_sizeOf_10 kc_iconst_1 ?_
        obtain ⟨g43, h⟩ := gd h
        obtain ⟨⟨I44, r45⟩, hc46, h⟩ := ob h
        refine r_callV1 (pc := 11) (av := [vI (1 : Int32)]) (S := []) dX0_sizeOf_11 (kX0_faulted hc46) g43 rfl mkX0_22 mwX0_faulted rfl ⟨by simp only [rmx]; omega, by simp only [rmx]; omega⟩ (Nat.le_of_ble_eq_true rfl) ⟨Nat.le_refl _, Nat.le_refl _⟩ (fun b => b) ?_
        cases h
        exact r_iret dX0_sizeOf_14
abbrev WX0_thirstOf (G : Gx) (l : Launch) (σ0 : Shp) (X1 : Stt) (rv : Option SV) : Stt → Nat → List (Nat × SV) → List SV → Prop := Wm G l yX0_thirstOf cX0_thirstOf 4 (some .int) (fun _ => True) (rmx 10 237 σ0 X1.1) σ0 (Qmx G σ0 X1 rv)
def fX0_thirstOf_b43  (σ : Shp) (R : Nat → Nat → Option Nat) (t : Nat) (I : Nat → Nat → Int32) (x1 : Option Nat) (x2 : Int32) : Option ((Nat → Nat → Int32) × (Int32)) :=
  if kdx σ t = 1 then
  (fX0_begin σ I R t (10 : Int32)).bind fun I4 =>
  (fX0_sizeOf 8 σ I4 R t x1 (0 : Int32)).bind fun (I6, r7) =>
  let v9 := ((3 : Int32) + r7)
  if x2 = 0 then
    some (I6, v9)
  else
    some (I6, ((2 : Int32) * v9))
  else none
theorem wX0_thirstOf_b43 {G : Gx} {l : Launch} {σ : Shp} {I : Nat → Nat → Int32} {J : Nat → Nat → Int64} {D : Nat → Nat → UInt64} {R : Nat → Nat → Option Nat} {t : Nat} {I9 : Nat → Nat → Int32} {r9 : Int32} {x1 : Option Nat} {x2 : Int32} (h : fX0_thirstOf_b43 σ R t I x1 x2 = some (I9, r9)) : WX0_thirstOf G l σ (σ, I9, J, D, R) (some (vI r9)) (σ, I, J, D, R) 43 [(0, vR (some t)), (1, vR x1), (2, vI x2)] [] := by
  unfold fX0_thirstOf_b43 at h
  refine r_aload_n (pc := 43) dX0_thirstOf_43 rfl 0 rfl ?_
  refine r_bipush (pc := 44) dX0_thirstOf_44 kc_bipush_10 ?_
  obtain ⟨g3, h⟩ := gd h
  obtain ⟨I4, hc5, h⟩ := ob h
  refine r_callV0 (pc := 46) (av := [vI (10 : Int32)]) (S := []) dX0_thirstOf_46 (kX0_begin hc5) g3 rfl mkX0_62 mwX0_begin rfl ⟨Nat.le_of_ble_eq_true rfl, Nat.le_of_ble_eq_true rfl⟩ (Nat.le_of_ble_eq_true rfl) ⟨Nat.le_refl _, Nat.le_refl _⟩ (fun b => b) ?_
  refine r_iconst (pc := 49) dX0_thirstOf_49 kc_iconst_3 ?_
  refine r_aload_n (pc := 50) dX0_thirstOf_50 rfl 0 rfl ?_
  refine r_aload_n (pc := 51) dX0_thirstOf_51 rfl 1 rfl ?_
  refine r_iconst (pc := 52) dX0_thirstOf_52 kc_iconst_0 ?_
  obtain ⟨⟨I6, r7⟩, hc8, h⟩ := ob h
  refine r_callV1 (pc := 53) (av := [vR x1, vI (0 : Int32)]) (S := [vI (3 : Int32)]) dX0_thirstOf_53 (kX0_sizeOf _ hc8) g3 rfl mkX0_45 mwX0_sizeOf rfl ⟨Nat.le_of_ble_eq_true rfl, Nat.le_of_ble_eq_true rfl⟩ (Nat.le_of_ble_eq_true rfl) ⟨Nat.le_refl _, Nat.le_refl _⟩ (fun b => b) ?_
  refine r_iadd (pc := 56) dX0_thirstOf_56 ?_
  refine r_istore_n (pc := 57) (L' := [(3, vI ((3 : Int32) + r7)), (0, vR (some t)), (1, vR x1), (2, vI x2)]) dX0_thirstOf_57 rfl (by decide) rfl ?_
  refine r_iload_n (pc := 58) dX0_thirstOf_58 rfl 3 rfl ?_
  refine r_if_eq (pc := 59) (tgt := 68) dX0_thirstOf_59 rfl (fun c => ?_) (fun c => ?_)
  · have h := it h c
    refine r_iload_n (pc := 68) dX0_thirstOf_68 rfl 0 rfl ?_
    cases h
    exact r_iret dX0_thirstOf_69
  · have h := ie h c
    refine r_iconst (pc := 62) dX0_thirstOf_62 kc_iconst_2 ?_
    refine r_iload_n (pc := 63) dX0_thirstOf_63 rfl 0 rfl ?_
    refine r_imul (pc := 64) dX0_thirstOf_64 ?_
    refine r_goto (pc := 65) (tgt := 69) dX0_thirstOf_65 rfl ?_
    cases h
    exact r_iret dX0_thirstOf_69
def fX0_thirstOf (σ : Shp) (I : Nat → Nat → Int32) (R : Nat → Nat → Option Nat) (t : Nat) (x1 : Option Nat) : Option ((Nat → Nat → Int32) × (Int32)) :=
  (x1 : Option Nat).bind fun a1 =>
  if kdx σ a1 = 11 then
  if (I a1 3) = (5 : Int32) then
    if kdx σ t = 1 then
    (fX0_begin σ I R t (12 : Int32)).bind fun I17 =>
    some (I17, (I17 a1 6))
    else none
  else
    if (I a1 3) = (3 : Int32) then
      if (0 : Int32) = 0 then
        fX0_thirstOf_b43 σ R t I x1 (0 : Int32)
      else
        if kdx σ t = 1 then
        (fX0_begin σ I R t (11 : Int32)).bind fun I11 =>
        fX0_thirstOf_b43 σ R t I11 x1 (0 : Int32)
        else none
    else
      if (1 : Int32) = 0 then
        fX0_thirstOf_b43 σ R t I x1 (1 : Int32)
      else
        if kdx σ t = 1 then
        (fX0_begin σ I R t (11 : Int32)).bind fun I14 =>
        fX0_thirstOf_b43 σ R t I14 x1 (1 : Int32)
        else none
  else none
theorem kX0_thirstOf {G : Gx} {l : Launch} {σ : Shp} {I : Nat → Nat → Int32} {J : Nat → Nat → Int64} {D : Nat → Nat → UInt64} {R : Nat → Nat → Option Nat} {t : Nat} {x1 : Option Nat} {I9 : Nat → Nat → Int32} {r9 : Int32} (h : fX0_thirstOf σ I R t x1 = some (I9, r9)) : Con G l yX0_thirstOf cX0_thirstOf 4 (some .int) 10 237 [vR (some t), vR x1] (σ, I, J, D, R) (σ, I9, J, D, R) (some (vI r9)) := by
  unfold fX0_thirstOf at h
  refine Con.mk (by decide +kernel) rfl (Nat.le_of_ble_eq_true rfl) ?_
  show WX0_thirstOf G l σ (σ, I9, J, D, R) (some (vI r9)) (σ, I, J, D, R) 0 _ []
  refine r_aload_n (pc := 0) dX0_thirstOf_0 rfl 1 rfl ?_
  obtain ⟨a1, ha1, h⟩ := ob h
  refine r_ref0 ha1 ?_
  obtain ⟨g2, h⟩ := gd h
  refine r_getI (pc := 1) dX0_thirstOf_1 fgX0_31 rfl g2 ?_
  refine r_iconst (pc := 4) dX0_thirstOf_4 kc_iconst_5 ?_
  refine r_icmp_ne (pc := 5) (tgt := 19) dX0_thirstOf_5 rfl (fun c => ?_) (fun c => ?_)
  · have h := ie h c
    refine r_aload_n (pc := 19) dX0_thirstOf_19 rfl 1 rfl ?_
    refine r_ref0 ha1 ?_
    refine r_getI (pc := 20) dX0_thirstOf_20 fgX0_31 rfl g2 ?_
    refine r_iconst (pc := 23) dX0_thirstOf_23 kc_iconst_3 ?_
    refine r_icmp_eq (pc := 24) (tgt := 31) dX0_thirstOf_24 rfl (fun c => ?_) (fun c => ?_)
    · have h := it h c
      refine r_iconst (pc := 31) dX0_thirstOf_31 kc_iconst_0 ?_
      refine r_istore_n (pc := 32) (L' := [(2, vI (0 : Int32)), (0, vR (some t)), (1, vR x1)]) dX0_thirstOf_32 rfl (by decide) rfl ?_
      refine r_iload_n (pc := 33) dX0_thirstOf_33 rfl 0 rfl ?_
      refine r_if_eq (pc := 34) (tgt := 43) dX0_thirstOf_34 rfl (fun c => ?_) (fun c => ?_)
      · have h := it h c
        refine r_sub [1, 2, 0] rfl ?_
        exact wX0_thirstOf_b43 h
      · have h := ie h c
        refine r_aload_n (pc := 37) dX0_thirstOf_37 rfl 1 rfl ?_
        refine r_bipush (pc := 38) dX0_thirstOf_38 kc_bipush_11 ?_
        obtain ⟨g10, h⟩ := gd h
        obtain ⟨I11, hc12, h⟩ := ob h
        refine r_callV0 (pc := 40) (av := [vI (11 : Int32)]) (S := []) dX0_thirstOf_40 (kX0_begin hc12) g10 rfl mkX0_62 mwX0_begin rfl ⟨Nat.le_of_ble_eq_true rfl, Nat.le_of_ble_eq_true rfl⟩ (Nat.le_of_ble_eq_true rfl) ⟨Nat.le_refl _, Nat.le_refl _⟩ (fun b => b) ?_
        refine r_sub [1, 2, 0] rfl ?_
        exact wX0_thirstOf_b43 h
    · have h := ie h c
      refine r_iconst (pc := 27) dX0_thirstOf_27 kc_iconst_1 ?_
      refine r_goto (pc := 28) (tgt := 32) dX0_thirstOf_28 rfl ?_
      refine r_istore_n (pc := 32) (L' := [(2, vI (1 : Int32)), (0, vR (some t)), (1, vR x1)]) dX0_thirstOf_32 rfl (by decide) rfl ?_
      refine r_iload_n (pc := 33) dX0_thirstOf_33 rfl 0 rfl ?_
      refine r_if_eq (pc := 34) (tgt := 43) dX0_thirstOf_34 rfl (fun c => ?_) (fun c => ?_)
      · have h := it h c
        refine r_sub [1, 2, 0] rfl ?_
        exact wX0_thirstOf_b43 h
      · have h := ie h c
        refine r_aload_n (pc := 37) dX0_thirstOf_37 rfl 1 rfl ?_
        refine r_bipush (pc := 38) dX0_thirstOf_38 kc_bipush_11 ?_
        obtain ⟨g13, h⟩ := gd h
        obtain ⟨I14, hc15, h⟩ := ob h
        refine r_callV0 (pc := 40) (av := [vI (11 : Int32)]) (S := []) dX0_thirstOf_40 (kX0_begin hc15) g13 rfl mkX0_62 mwX0_begin rfl ⟨Nat.le_of_ble_eq_true rfl, Nat.le_of_ble_eq_true rfl⟩ (Nat.le_of_ble_eq_true rfl) ⟨Nat.le_refl _, Nat.le_refl _⟩ (fun b => b) ?_
        refine r_sub [1, 2, 0] rfl ?_
        exact wX0_thirstOf_b43 h
  · have h := it h c
    refine r_aload_n (pc := 8) dX0_thirstOf_8 rfl 0 rfl ?_
    refine r_bipush (pc := 9) dX0_thirstOf_9 kc_bipush_12 ?_
    obtain ⟨g16, h⟩ := gd h
    obtain ⟨I17, hc18, h⟩ := ob h
    refine r_callV0 (pc := 11) (av := [vI (12 : Int32)]) (S := []) dX0_thirstOf_11 (kX0_begin hc18) g16 rfl mkX0_62 mwX0_begin rfl ⟨Nat.le_of_ble_eq_true rfl, Nat.le_of_ble_eq_true rfl⟩ (Nat.le_of_ble_eq_true rfl) ⟨Nat.le_refl _, Nat.le_refl _⟩ (fun b => b) ?_
    refine r_aload_n (pc := 14) dX0_thirstOf_14 rfl 1 rfl ?_
    refine r_ref0 ha1 ?_
    refine r_getI (pc := 15) dX0_thirstOf_15 fgX0_73 rfl g2 ?_
    cases h
    exact r_iret dX0_thirstOf_18
abbrev WX0_tell (G : Gx) (l : Launch) (σ0 : Shp) (X1 : Stt) (rv : Option SV) : Stt → Nat → List (Nat × SV) → List SV → Prop := Wm G l yX0_tell cX0_tell 4 (some .int) (fun _ => True) (rmx 11 260 σ0 X1.1) σ0 (Qmx G σ0 X1 rv)
def fX0_tell (σ : Shp) (I : Nat → Nat → Int32) (R : Nat → Nat → Option Nat) (t : Nat) (x1 : Option Nat) (x2 : Int32) : Option ((Nat → Nat → Int32) × (Int32)) :=
  onl x1
    (
      if kdx σ t = 1 then
      (fX0_faulted σ I t (1 : Int32)).bind fun (I3, r4) =>
      some (I3, r4)
      else none)
    (fun a1 =>
      if kdx σ a1 = 11 then
      if (I a1 0) = (16 : Int32) then
        if (fX0_answers (I a1 3) x2) = 0 then
          if kdx σ t = 1 then
          (fX0_faulted σ I t (4 : Int32)).bind fun (I38, r39) =>
          some (I38, r39)
          else none
        else
          if x2 = (2 : Int32) then
            if kdx σ t = 1 then
            (fX0_costAlone σ I R t (some a1)).bind fun (I31, r32) =>
            if (I31 a1 3) = (3 : Int32) then
              if (I31 t 2) = 0 then
                (fX0_thirstOf σ I31 R t (some a1)).bind fun (I34, r35) =>
                some (I34, (r32 + r35))
              else
                some (I31, r32)
            else
              some (I31, r32)
            else none
          else
            if x2 = (0 : Int32) then
              if kdx σ t = 1 then
              (fX0_sizeOf 8 σ I R t (some a1) (0 : Int32)).bind fun (I27, r28) =>
              some (I27, r28)
              else none
            else
            if x2 = (1 : Int32) then
              if kdx σ t = 1 then
              (fX0_thirstOf σ I R t (some a1)).bind fun (I23, r24) =>
              some (I23, r24)
              else none
            else
            if x2 = (2 : Int32) then
              some (I, (I a1 7))
            else
            if x2 = (3 : Int32) then
              if kdx σ t = 1 then
              (fX0_markOf σ I R t (some a1)).bind fun (I19, r20) =>
              some (I19, r20)
              else none
            else
            if x2 = (4 : Int32) then
              if (I a1 3) = (2 : Int32) then
                some (I, (9 : Int32))
              else
                some (I, (7 : Int32))
            else
            if x2 = (5 : Int32) then
              some (I, (I a1 4))
            else
            if x2 = (6 : Int32) then
              some (I, (I a1 3))
            else
            some (I, (I a1 7))
      else
        if kdx σ t = 1 then
        (fX0_faulted σ I t (4 : Int32)).bind fun (I8, r9) =>
        some (I8, r9)
        else none
      else none)
theorem kX0_tell {G : Gx} {l : Launch} {σ : Shp} {I : Nat → Nat → Int32} {J : Nat → Nat → Int64} {D : Nat → Nat → UInt64} {R : Nat → Nat → Option Nat} {t : Nat} {x1 : Option Nat} {x2 : Int32} {I9 : Nat → Nat → Int32} {r9 : Int32} (h : fX0_tell σ I R t x1 x2 = some (I9, r9)) : Con G l yX0_tell cX0_tell 4 (some .int) 11 260 [vR (some t), vR x1, vI x2] (σ, I, J, D, R) (σ, I9, J, D, R) (some (vI r9)) := by
  unfold fX0_tell at h
  refine Con.mk (by decide +kernel) rfl (Nat.le_of_ble_eq_true rfl) ?_
  show WX0_tell G l σ (σ, I9, J, D, R) (some (vI r9)) (σ, I, J, D, R) 0 _ []
  refine r_aload_n (pc := 0) dX0_tell_0 rfl 1 rfl ?_
  rcases onl_c h with ⟨ea1, h⟩ | ⟨a1, ha1, h⟩
  · refine r_ref0n ea1 ?_
    refine r_ifnonnull_n (pc := 1) dX0_tell_1 ?_
    refine r_aload_n (pc := 4) dX0_tell_4 rfl 0 rfl ?_
    refine r_iconst (pc := 5) dX0_tell_5 kc_iconst_1 ?_
    obtain ⟨g2, h⟩ := gd h
    obtain ⟨⟨I3, r4⟩, hc5, h⟩ := ob h
    refine r_callV1 (pc := 6) (av := [vI (1 : Int32)]) (S := []) dX0_tell_6 (kX0_faulted hc5) g2 rfl mkX0_22 mwX0_faulted rfl ⟨Nat.le_of_ble_eq_true rfl, Nat.le_of_ble_eq_true rfl⟩ (Nat.le_of_ble_eq_true rfl) ⟨Nat.le_refl _, Nat.le_refl _⟩ (fun b => b) ?_
    cases h
    exact r_iret dX0_tell_9
  · refine r_ref0 ha1 ?_
    refine r_ifnonnull_s (pc := 1) (tgt := 10) dX0_tell_1 rfl ?_
    refine r_aload_n (pc := 10) dX0_tell_10 rfl 1 rfl ?_
    refine r_ref0 ha1 ?_
    obtain ⟨g6, h⟩ := gd h
    refine r_getI (pc := 11) dX0_tell_11 fgX0_26 rfl g6 ?_
    refine r_bipush (pc := 14) dX0_tell_14 kc_bipush_16 ?_
    refine r_icmp_ne (pc := 16) (tgt := 30) dX0_tell_16 rfl (fun c => ?_) (fun c => ?_)
    · have h := ie h c
      refine r_aload_n (pc := 30) dX0_tell_30 rfl 0 rfl ?_
      refine r_iconst (pc := 31) dX0_tell_31 kc_iconst_4 ?_
      obtain ⟨g7, h⟩ := gd h
      obtain ⟨⟨I8, r9⟩, hc10, h⟩ := ob h
      refine r_callV1 (pc := 32) (av := [vI (4 : Int32)]) (S := []) dX0_tell_32 (kX0_faulted hc10) g7 rfl mkX0_22 mwX0_faulted rfl ⟨Nat.le_of_ble_eq_true rfl, Nat.le_of_ble_eq_true rfl⟩ (Nat.le_of_ble_eq_true rfl) ⟨Nat.le_refl _, Nat.le_refl _⟩ (fun b => b) ?_
      cases h
      exact r_iret dX0_tell_35
    · have h := it h c
      refine r_aload_n (pc := 19) dX0_tell_19 rfl 1 rfl ?_
      refine r_ref0 ha1 ?_
      refine r_getI (pc := 20) dX0_tell_20 fgX0_31 rfl g6 ?_
      refine r_iload_n (pc := 23) dX0_tell_23 rfl 2 rfl ?_
      refine r_callS1 (pc := 24) (av := [vI (I a1 3), vI x2]) (S := []) dX0_tell_24 (kX0_answers rfl) mkX0_34 mwX0_answers rfl ⟨Nat.le_of_ble_eq_true rfl, Nat.le_of_ble_eq_true rfl⟩ (Nat.le_of_ble_eq_true rfl) ⟨Nat.le_refl _, Nat.le_refl _⟩ (fun b => b) ?_
      refine r_ifne (pc := 27) (tgt := 36) dX0_tell_27 rfl (fun c => ?_) (fun c => ?_)
      · have h := ie h c
        refine r_iload_n (pc := 36) dX0_tell_36 rfl 2 rfl ?_
        refine r_iconst (pc := 37) dX0_tell_37 kc_iconst_2 ?_
        refine r_icmp_ne (pc := 38) (tgt := 74) dX0_tell_38 rfl (fun c => ?_) (fun c => ?_)
        · have h := ie h c
          refine r_iload_n (pc := 74) dX0_tell_74 rfl 2 rfl ?_
          rcases itc h with ⟨c11, h⟩ | ⟨c11, h⟩
          · refine r_tsIn (x := x2) (pc := 75) (tgt := 116) dX0_tell_75 (by rw [c11]; decide) (by rw [c11]; decide) (by rw [c11]; rfl) rfl ?_
            refine r_aload_n (pc := 116) dX0_tell_116 rfl 0 rfl ?_
            refine r_aload_n (pc := 117) dX0_tell_117 rfl 1 rfl ?_
            refine r_ref0 ha1 ?_
            refine r_iconst (pc := 118) dX0_tell_118 kc_iconst_0 ?_
            obtain ⟨g26, h⟩ := gd h
            obtain ⟨⟨I27, r28⟩, hc29, h⟩ := ob h
            refine r_callV1 (pc := 119) (av := [vR (some a1), vI (0 : Int32)]) (S := []) dX0_tell_119 (kX0_sizeOf _ hc29) g26 rfl mkX0_45 mwX0_sizeOf rfl ⟨Nat.le_of_ble_eq_true rfl, Nat.le_of_ble_eq_true rfl⟩ (Nat.le_of_ble_eq_true rfl) ⟨Nat.le_refl _, Nat.le_refl _⟩ (fun b => b) ?_
            cases h
            exact r_iret dX0_tell_122
          · rcases itc h with ⟨c12, h⟩ | ⟨c12, h⟩
            · refine r_tsIn (x := x2) (pc := 75) (tgt := 123) dX0_tell_75 (by rw [c12]; decide) (by rw [c12]; decide) (by rw [c12]; rfl) rfl ?_
              refine r_aload_n (pc := 123) dX0_tell_123 rfl 0 rfl ?_
              refine r_aload_n (pc := 124) dX0_tell_124 rfl 1 rfl ?_
              refine r_ref0 ha1 ?_
              obtain ⟨g22, h⟩ := gd h
              obtain ⟨⟨I23, r24⟩, hc25, h⟩ := ob h
              refine r_callV1 (pc := 125) (av := [vR (some a1)]) (S := []) dX0_tell_125 (kX0_thirstOf hc25) g22 rfl mkX0_42 mwX0_thirstOf rfl ⟨Nat.le_of_ble_eq_true rfl, Nat.le_of_ble_eq_true rfl⟩ (Nat.le_of_ble_eq_true rfl) ⟨Nat.le_refl _, Nat.le_refl _⟩ (fun b => b) ?_
              cases h
              exact r_iret dX0_tell_128
            · rcases itc h with ⟨c13, h⟩ | ⟨c13, h⟩
              · refine r_tsIn (x := x2) (pc := 75) (tgt := 161) dX0_tell_75 (by rw [c13]; decide) (by rw [c13]; decide) (by rw [c13]; rfl) rfl ?_
                refine r_aload_n (pc := 161) dX0_tell_161 rfl 1 rfl ?_
                refine r_ref0 ha1 ?_
                refine r_getI (pc := 162) dX0_tell_162 fgX0_55 rfl g6 ?_
                cases h
                exact r_iret dX0_tell_165
              · rcases itc h with ⟨c14, h⟩ | ⟨c14, h⟩
                · refine r_tsIn (x := x2) (pc := 75) (tgt := 129) dX0_tell_75 (by rw [c14]; decide) (by rw [c14]; decide) (by rw [c14]; rfl) rfl ?_
                  refine r_aload_n (pc := 129) dX0_tell_129 rfl 0 rfl ?_
                  refine r_aload_n (pc := 130) dX0_tell_130 rfl 1 rfl ?_
                  refine r_ref0 ha1 ?_
                  obtain ⟨g18, h⟩ := gd h
                  obtain ⟨⟨I19, r20⟩, hc21, h⟩ := ob h
                  refine r_callV1 (pc := 131) (av := [vR (some a1)]) (S := []) dX0_tell_131 (kX0_markOf hc21) g18 rfl mkX0_49 mwX0_markOf rfl ⟨Nat.le_of_ble_eq_true rfl, Nat.le_of_ble_eq_true rfl⟩ (Nat.le_of_ble_eq_true rfl) ⟨Nat.le_refl _, Nat.le_refl _⟩ (fun b => b) ?_
                  cases h
                  exact r_iret dX0_tell_134
                · rcases itc h with ⟨c15, h⟩ | ⟨c15, h⟩
                  · refine r_tsIn (x := x2) (pc := 75) (tgt := 135) dX0_tell_75 (by rw [c15]; decide) (by rw [c15]; decide) (by rw [c15]; rfl) rfl ?_
                    refine r_aload_n (pc := 135) dX0_tell_135 rfl 1 rfl ?_
                    refine r_ref0 ha1 ?_
                    refine r_getI (pc := 136) dX0_tell_136 fgX0_31 rfl g6 ?_
                    refine r_iconst (pc := 139) dX0_tell_139 kc_iconst_2 ?_
                    refine r_icmp_ne (pc := 140) (tgt := 148) dX0_tell_140 rfl (fun c => ?_) (fun c => ?_)
                    · have h := ie h c
                      refine r_bipush (pc := 148) dX0_tell_148 kc_bipush_7 ?_
                      cases h
                      exact r_iret dX0_tell_150
                    · have h := it h c
                      refine r_bipush (pc := 143) dX0_tell_143 kc_bipush_9 ?_
                      refine r_goto (pc := 145) (tgt := 150) dX0_tell_145 rfl ?_
                      cases h
                      exact r_iret dX0_tell_150
                  · rcases itc h with ⟨c16, h⟩ | ⟨c16, h⟩
                    · refine r_tsIn (x := x2) (pc := 75) (tgt := 151) dX0_tell_75 (by rw [c16]; decide) (by rw [c16]; decide) (by rw [c16]; rfl) rfl ?_
                      refine r_aload_n (pc := 151) dX0_tell_151 rfl 1 rfl ?_
                      refine r_ref0 ha1 ?_
                      refine r_getI (pc := 152) dX0_tell_152 fgX0_52 rfl g6 ?_
                      cases h
                      exact r_iret dX0_tell_155
                    · rcases itc h with ⟨c17, h⟩ | ⟨c17, h⟩
                      · refine r_tsIn (x := x2) (pc := 75) (tgt := 156) dX0_tell_75 (by rw [c17]; decide) (by rw [c17]; decide) (by rw [c17]; rfl) rfl ?_
                        refine r_aload_n (pc := 156) dX0_tell_156 rfl 1 rfl ?_
                        refine r_ref0 ha1 ?_
                        refine r_getI (pc := 157) dX0_tell_157 fgX0_31 rfl g6 ?_
                        cases h
                        exact r_iret dX0_tell_160
                      · refine r_tsOut (x := x2) (pc := 75) (tgt := 161) dX0_tell_75 (by have ec11 := i32n c11 (k := 0) rfl; have ec12 := i32n c12 (k := 1) rfl; have ec13 := i32n c13 (k := 2) rfl; have ec14 := i32n c14 (k := 3) rfl; have ec15 := i32n c15 (k := 4) rfl; have ec16 := i32n c16 (k := 5) rfl; have ec17 := i32n c17 (k := 6) rfl; omega) rfl ?_
                        refine r_aload_n (pc := 161) dX0_tell_161 rfl 1 rfl ?_
                        refine r_ref0 ha1 ?_
                        refine r_getI (pc := 162) dX0_tell_162 fgX0_55 rfl g6 ?_
                        cases h
                        exact r_iret dX0_tell_165
        · have h := it h c
          refine r_aload_n (pc := 41) dX0_tell_41 rfl 0 rfl ?_
          refine r_aload_n (pc := 42) dX0_tell_42 rfl 1 rfl ?_
          refine r_ref0 ha1 ?_
          obtain ⟨g30, h⟩ := gd h
          obtain ⟨⟨I31, r32⟩, hc33, h⟩ := ob h
          refine r_callV1 (pc := 43) (av := [vR (some a1)]) (S := []) dX0_tell_43 (kX0_costAlone hc33) g30 rfl mkX0_38 mwX0_costAlone rfl ⟨Nat.le_of_ble_eq_true rfl, Nat.le_of_ble_eq_true rfl⟩ (Nat.le_of_ble_eq_true rfl) ⟨Nat.le_refl _, Nat.le_refl _⟩ (fun b => b) ?_
          refine r_istore_n (pc := 46) (L' := [(3, vI r32), (0, vR (some t)), (1, vR x1), (2, vI x2)]) dX0_tell_46 rfl (by decide) rfl ?_
          refine r_aload_n (pc := 47) dX0_tell_47 rfl 2 rfl ?_
          refine r_ref0 ha1 ?_
          refine r_getI (pc := 48) dX0_tell_48 fgX0_31 rfl g6 ?_
          refine r_iconst (pc := 51) dX0_tell_51 kc_iconst_3 ?_
          refine r_icmp_ne (pc := 52) (tgt := 72) dX0_tell_52 rfl (fun c => ?_) (fun c => ?_)
          · have h := ie h c
            refine r_iload_n (pc := 72) dX0_tell_72 rfl 0 rfl ?_
            cases h
            exact r_iret dX0_tell_73
          · have h := it h c
            refine r_aload_n (pc := 55) dX0_tell_55 rfl 1 rfl ?_
            refine r_getI (pc := 56) dX0_tell_56 fgX0_19 rfl g30 ?_
            refine r_ifne (pc := 59) (tgt := 72) dX0_tell_59 rfl (fun c => ?_) (fun c => ?_)
            · have h := ie h c
              refine r_iload_n (pc := 72) dX0_tell_72 rfl 0 rfl ?_
              cases h
              exact r_iret dX0_tell_73
            · have h := it h c
              refine r_iload_n (pc := 62) dX0_tell_62 rfl 0 rfl ?_
              refine r_aload_n (pc := 63) dX0_tell_63 rfl 1 rfl ?_
              refine r_aload_n (pc := 64) dX0_tell_64 rfl 2 rfl ?_
              refine r_ref0 ha1 ?_
              obtain ⟨⟨I34, r35⟩, hc36, h⟩ := ob h
              refine r_callV1 (pc := 65) (av := [vR (some a1)]) (S := [vI r32]) dX0_tell_65 (kX0_thirstOf hc36) g30 rfl mkX0_42 mwX0_thirstOf rfl ⟨Nat.le_of_ble_eq_true rfl, Nat.le_of_ble_eq_true rfl⟩ (Nat.le_of_ble_eq_true rfl) ⟨Nat.le_refl _, Nat.le_refl _⟩ (fun b => b) ?_
              refine r_iadd (pc := 68) dX0_tell_68 ?_
              refine r_goto (pc := 69) (tgt := 73) dX0_tell_69 rfl ?_
              cases h
              exact r_iret dX0_tell_73
      · have h := it h c
        refine r_aload_n (pc := 30) dX0_tell_30 rfl 0 rfl ?_
        refine r_iconst (pc := 31) dX0_tell_31 kc_iconst_4 ?_
        obtain ⟨g37, h⟩ := gd h
        obtain ⟨⟨I38, r39⟩, hc40, h⟩ := ob h
        refine r_callV1 (pc := 32) (av := [vI (4 : Int32)]) (S := []) dX0_tell_32 (kX0_faulted hc40) g37 rfl mkX0_22 mwX0_faulted rfl ⟨Nat.le_of_ble_eq_true rfl, Nat.le_of_ble_eq_true rfl⟩ (Nat.le_of_ble_eq_true rfl) ⟨Nat.le_refl _, Nat.le_refl _⟩ (fun b => b) ?_
        cases h
        exact r_iret dX0_tell_35
abbrev WX1_init (G : Gx) (l : Launch) (σ0 : Shp) (X1 : Stt) (rv : Option SV) : Stt → Nat → List (Nat × SV) → List SV → Prop := Wm G l yX1_init cX1_init 1 none (fun _ => True) (rmx 1 20 σ0 X1.1) σ0 (Qmx G σ0 X1 rv)
def fX1_init_b26  (t : Nat) (σ : Shp) (I : Nat → Nat → Int32) (R : Nat → Nat → Option Nat) (s0 : Nat) (s1 : Nat) : Option ((Shp) × (Nat → Nat → Int32) × (Nat → Nat → Option Nat)) :=
  if kdx σ s0 = 2 then
  let R9 := u2 R s0 2 (some s1)
  if kdx σ t = 2 then
  let I11 := u2 I t 6 (-1 : Int32)
  some (σ, I11, R9)
  else none
  else none
theorem mX1_init_b26 {σ : Shp} {I : Nat → Nat → Int32} {R : Nat → Nat → Option Nat} {t : Nat} {σ9 : Shp} {I9 : Nat → Nat → Int32} {R9 : Nat → Nat → Option Nat} {s0 : Nat} {s1 : Nat} (h : fX1_init_b26 t σ I R s0 s1 = some (σ9, I9, R9)) : Lex σ σ9 := by
  unfold fX1_init_b26 at h
  replace h := (gd h).2
  replace h := (gd h).2
  cases h
  exact ⟨Nat.le_refl _, Nat.le_refl _⟩
theorem wX1_init_b26 {G : Gx} {l : Launch} {σ0 : Shp} {σ : Shp} {I : Nat → Nat → Int32} {J : Nat → Nat → Int64} {D : Nat → Nat → UInt64} {R : Nat → Nat → Option Nat} {t : Nat} {σ9 : Shp} {I9 : Nat → Nat → Int32} {R9 : Nat → Nat → Option Nat} {s0 : Nat} {s1 : Nat} (h : fX1_init_b26 t σ I R s0 s1 = some (σ9, I9, R9)) : WX1_init G l σ0 (σ9, I9, J, D, R9) none (σ, I, J, D, R) 26 [(0, vR (some t))] [vR (some s1), vR (some s0)] := by
  unfold fX1_init_b26 at h
  obtain ⟨g8, h⟩ := gd h
  refine r_putRF (pc := 26) dX1_init_26 fwX1_18 rfl rfl g8 ?_
  refine r_aload_n (pc := 29) dX1_init_29 rfl 0 rfl ?_
  refine r_iconst (pc := 30) dX1_init_30 kc_iconst_m1 ?_
  obtain ⟨g10, h⟩ := gd h
  refine r_putI (pc := 31) dX1_init_31 fwX1_21 rfl g10 ?_
  cases h
  exact r_vret dX1_init_34
def fX1_init_b18  (t : Nat) (σ : Shp) (I : Nat → Nat → Int32) (R : Nat → Nat → Option Nat) (s0 : Nat) (s1 : Nat) : Option ((Shp) × (Nat → Nat → Int32) × (Nat → Nat → Option Nat)) :=
  if kdx σ s0 = 2 then
  let R6 := u2 R s0 1 (some s1)
  let σ7 := mkA σ 20 (Int32.toNatClampNeg (20 : Int32))
  fX1_init_b26 t σ7 I R6 t (nxx σ + 4)
  else none
theorem mX1_init_b18 {σ : Shp} {I : Nat → Nat → Int32} {R : Nat → Nat → Option Nat} {t : Nat} {σ9 : Shp} {I9 : Nat → Nat → Int32} {R9 : Nat → Nat → Option Nat} {s0 : Nat} {s1 : Nat} (h : fX1_init_b18 t σ I R s0 s1 = some (σ9, I9, R9)) : Lex σ σ9 := by
  unfold fX1_init_b18 at h
  replace h := (gd h).2
  exact Lex_mkA (mX1_init_b26 h)
theorem wX1_init_b18 {G : Gx} {l : Launch} {σ0 : Shp} {σ : Shp} {I : Nat → Nat → Int32} {J : Nat → Nat → Int64} {D : Nat → Nat → UInt64} {R : Nat → Nat → Option Nat} {t : Nat} {σ9 : Shp} {I9 : Nat → Nat → Int32} {R9 : Nat → Nat → Option Nat} {s0 : Nat} {s1 : Nat} (h : fX1_init_b18 t σ I R s0 s1 = some (σ9, I9, R9)) : WX1_init G l σ0 (σ9, I9, J, D, R9) none (σ, I, J, D, R) 18 [(0, vR (some t))] [vR (some s1), vR (some s0)] := by
  unfold fX1_init_b18 at h
  obtain ⟨g5, h⟩ := gd h
  refine r_putRF (pc := 18) dX1_init_18 fwX1_15 rfl rfl g5 ?_
  refine r_aload_n (pc := 21) dX1_init_21 rfl 0 rfl ?_
  refine r_bipush (pc := 22) dX1_init_22 kc_bipush_20 ?_
  refine r_newa (pc := 24) (t := 20) (ti := 0) (ty := .int) dX1_init_24 rfl (by decide) ac20 (by decide) (by decide) (Nat.sub_le_sub_right (mX1_init_b26 h).1 _) (Nat.sub_le_sub_right (mX1_init_b26 h).2 _) ?_
  refine r_sub [0] rfl ?_
  exact wX1_init_b26 h
def fX1_init_b10  (t : Nat) (σ : Shp) (I : Nat → Nat → Int32) (R : Nat → Nat → Option Nat) (s0 : Nat) (s1 : Nat) : Option ((Shp) × (Nat → Nat → Int32) × (Nat → Nat → Option Nat)) :=
  if kdx σ s0 = 2 then
  let R3 := u2 R s0 0 (some s1)
  let σ4 := mkA σ 20 (Int32.toNatClampNeg (64 : Int32))
  fX1_init_b18 t σ4 I R3 t (nxx σ + 4)
  else none
theorem mX1_init_b10 {σ : Shp} {I : Nat → Nat → Int32} {R : Nat → Nat → Option Nat} {t : Nat} {σ9 : Shp} {I9 : Nat → Nat → Int32} {R9 : Nat → Nat → Option Nat} {s0 : Nat} {s1 : Nat} (h : fX1_init_b10 t σ I R s0 s1 = some (σ9, I9, R9)) : Lex σ σ9 := by
  unfold fX1_init_b10 at h
  replace h := (gd h).2
  exact Lex_mkA (mX1_init_b18 h)
theorem wX1_init_b10 {G : Gx} {l : Launch} {σ0 : Shp} {σ : Shp} {I : Nat → Nat → Int32} {J : Nat → Nat → Int64} {D : Nat → Nat → UInt64} {R : Nat → Nat → Option Nat} {t : Nat} {σ9 : Shp} {I9 : Nat → Nat → Int32} {R9 : Nat → Nat → Option Nat} {s0 : Nat} {s1 : Nat} (h : fX1_init_b10 t σ I R s0 s1 = some (σ9, I9, R9)) : WX1_init G l σ0 (σ9, I9, J, D, R9) none (σ, I, J, D, R) 10 [(0, vR (some t))] [vR (some s1), vR (some s0)] := by
  unfold fX1_init_b10 at h
  obtain ⟨g2, h⟩ := gd h
  refine r_putRF (pc := 10) dX1_init_10 fwX1_11 rfl rfl g2 ?_
  refine r_aload_n (pc := 13) dX1_init_13 rfl 0 rfl ?_
  refine r_bipush (pc := 14) dX1_init_14 kc_bipush_64 ?_
  refine r_newa (pc := 16) (t := 20) (ti := 0) (ty := .int) dX1_init_16 rfl (by decide) ac20 (by decide) (by decide) (Nat.sub_le_sub_right (mX1_init_b18 h).1 _) (Nat.sub_le_sub_right (mX1_init_b18 h).2 _) ?_
  refine r_sub [0] rfl ?_
  exact wX1_init_b18 h
def fX1_init (σ : Shp) (I : Nat → Nat → Int32) (R : Nat → Nat → Option Nat) (t : Nat)  : Option ((Shp) × (Nat → Nat → Int32) × (Nat → Nat → Option Nat)) :=
  let σ1 := mkA σ 20 (Int32.toNatClampNeg (1280 : Int32))
  fX1_init_b10 t σ1 I R t (nxx σ + 4)
theorem mX1_init {σ : Shp} {I : Nat → Nat → Int32} {R : Nat → Nat → Option Nat} {t : Nat}  {σ9 : Shp} {I9 : Nat → Nat → Int32} {R9 : Nat → Nat → Option Nat} (h : fX1_init σ I R t = some (σ9, I9, R9)) : Lex σ σ9 := by
  unfold fX1_init at h
  exact Lex_mkA (mX1_init_b10 h)
theorem kX1_init {G : Gx} {l : Launch} {σ : Shp} {I : Nat → Nat → Int32} {J : Nat → Nat → Int64} {D : Nat → Nat → UInt64} {R : Nat → Nat → Option Nat} {t : Nat}  {σ9 : Shp} {I9 : Nat → Nat → Int32} {R9 : Nat → Nat → Option Nat} (h : fX1_init σ I R t = some (σ9, I9, R9)) : Con G l yX1_init cX1_init 1 none 1 20 [vR (some t)] (σ, I, J, D, R) (σ9, I9, J, D, R9) none := by
  unfold fX1_init at h
  refine Con.mk (by decide +kernel) rfl (Nat.le_of_ble_eq_true rfl) ?_
  show WX1_init G l σ (σ9, I9, J, D, R9) none (σ, I, J, D, R) 0 _ []
  refine r_aload_n (pc := 0) dX1_init_0 rfl 0 rfl ?_
  refine r_objInit (pc := 1) (S := []) dX1_init_1 obX1_3 obI obC (Nat.le_of_ble_eq_true rfl) (Nat.le_of_ble_eq_true rfl) (Nat.le_of_ble_eq_true rfl) ?_
  refine r_aload_n (pc := 4) dX1_init_4 rfl 0 rfl ?_
  refine r_sipush (pc := 5) dX1_init_5 kc_sipush_1280 ?_
  refine r_newa (pc := 8) (t := 20) (ti := 0) (ty := .int) dX1_init_8 rfl (by decide) ac20 (by decide) (by decide) (Nat.sub_le_sub_right (mX1_init_b10 h).1 _) (Nat.sub_le_sub_right (mX1_init_b10 h).2 _) ?_
  refine r_sub [0] rfl ?_
  exact wX1_init_b10 h
abbrev WX1_isByte (G : Gx) (l : Launch) (σ0 : Shp) (X1 : Stt) (rv : Option SV) : Stt → Nat → List (Nat × SV) → List SV → Prop := Wm G l yX1_isByte cX1_isByte 2 (some .boolean) (fun _ => True) (rmx 0 0 σ0 X1.1) σ0 (Qmx G σ0 X1 rv)
def fX1_isByte  (x0 : Int32) (x1 : Int32) : (Int32) :=
  if x0 < 0 then
    (0 : Int32)
  else
    if (20 : Int32) ≤ x0 then
      (0 : Int32)
    else
      if x1 < 0 then
        (0 : Int32)
      else
        if (64 : Int32) ≤ x1 then
          (0 : Int32)
        else
          (1 : Int32)
theorem zX1_isByte  (x0 : Int32) (x1 : Int32) : fX1_isByte x0 x1 = 0 ∨ fX1_isByte x0 x1 = 1 := by
  unfold fX1_isByte
  repeat' (first | refine itz ?_ ?_ | exact Or.inl rfl | exact Or.inr rfl)
theorem kX1_isByte {G : Gx} {l : Launch} {σ : Shp} {I : Nat → Nat → Int32} {J : Nat → Nat → Int64} {D : Nat → Nat → UInt64} {R : Nat → Nat → Option Nat} {x0 : Int32} {x1 : Int32} {r9 : Int32} (h : fX1_isByte x0 x1 = r9) : Con G l yX1_isByte cX1_isByte 2 (some .boolean) 0 0 [vI x0, vI x1] (σ, I, J, D, R) (σ, I, J, D, R) (some (vI r9)) := by
  unfold fX1_isByte at h
  refine Con.mk (by decide +kernel) rfl (Nat.le_of_ble_eq_true rfl) ?_
  show WX1_isByte G l σ (σ, I, J, D, R) (some (vI r9)) (σ, I, J, D, R) 0 _ []
  refine r_iload_n (pc := 0) dX1_isByte_0 rfl 0 rfl ?_
  refine r_if_lt (pc := 1) (tgt := 24) dX1_isByte_1 rfl (fun c => ?_) (fun c => ?_)
  · have h := it h c
    refine r_iconst (pc := 24) dX1_isByte_24 kc_iconst_0 ?_
    subst h
    exact r_zret dX1_isByte_25 (Or.inl rfl)
  · have h := ie h c
    refine r_iload_n (pc := 4) dX1_isByte_4 rfl 0 rfl ?_
    refine r_bipush (pc := 5) dX1_isByte_5 kc_bipush_20 ?_
    refine r_icmp_ge (pc := 7) (tgt := 24) dX1_isByte_7 rfl (fun c => ?_) (fun c => ?_)
    · have h := it h c
      refine r_iconst (pc := 24) dX1_isByte_24 kc_iconst_0 ?_
      subst h
      exact r_zret dX1_isByte_25 (Or.inl rfl)
    · have h := ie h c
      refine r_iload_n (pc := 10) dX1_isByte_10 rfl 1 rfl ?_
      refine r_if_lt (pc := 11) (tgt := 24) dX1_isByte_11 rfl (fun c => ?_) (fun c => ?_)
      · have h := it h c
        refine r_iconst (pc := 24) dX1_isByte_24 kc_iconst_0 ?_
        subst h
        exact r_zret dX1_isByte_25 (Or.inl rfl)
      · have h := ie h c
        refine r_iload_n (pc := 14) dX1_isByte_14 rfl 1 rfl ?_
        refine r_bipush (pc := 15) dX1_isByte_15 kc_bipush_64 ?_
        refine r_icmp_ge (pc := 17) (tgt := 24) dX1_isByte_17 rfl (fun c => ?_) (fun c => ?_)
        · have h := it h c
          refine r_iconst (pc := 24) dX1_isByte_24 kc_iconst_0 ?_
          subst h
          exact r_zret dX1_isByte_25 (Or.inl rfl)
        · have h := ie h c
          refine r_iconst (pc := 20) dX1_isByte_20 kc_iconst_1 ?_
          refine r_goto (pc := 21) (tgt := 25) dX1_isByte_21 rfl ?_
          subst h
          exact r_zret dX1_isByte_25 (Or.inr rfl)
abbrev WX1_writes (G : Gx) (l : Launch) (σ0 : Shp) (X1 : Stt) (rv : Option SV) : Stt → Nat → List (Nat × SV) → List SV → Prop := Wm G l yX1_writes cX1_writes 1 (some .boolean) (fun _ => True) (rmx 0 0 σ0 X1.1) σ0 (Qmx G σ0 X1 rv)
def fX1_writes  (x0 : Int32) : (Int32) :=
  if x0 = (1 : Int32) then
    (1 : Int32)
  else
    if x0 = (3 : Int32) then
      (1 : Int32)
    else
      if x0 = (4 : Int32) then
        (1 : Int32)
      else
        if x0 = (5 : Int32) then
          (1 : Int32)
        else
          (0 : Int32)
theorem zX1_writes  (x0 : Int32) : fX1_writes x0 = 0 ∨ fX1_writes x0 = 1 := by
  unfold fX1_writes
  repeat' (first | refine itz ?_ ?_ | exact Or.inl rfl | exact Or.inr rfl)
theorem kX1_writes {G : Gx} {l : Launch} {σ : Shp} {I : Nat → Nat → Int32} {J : Nat → Nat → Int64} {D : Nat → Nat → UInt64} {R : Nat → Nat → Option Nat} {x0 : Int32} {r9 : Int32} (h : fX1_writes x0 = r9) : Con G l yX1_writes cX1_writes 1 (some .boolean) 0 0 [vI x0] (σ, I, J, D, R) (σ, I, J, D, R) (some (vI r9)) := by
  unfold fX1_writes at h
  refine Con.mk (by decide +kernel) rfl (Nat.le_of_ble_eq_true rfl) ?_
  show WX1_writes G l σ (σ, I, J, D, R) (some (vI r9)) (σ, I, J, D, R) 0 _ []
  refine r_iload_n (pc := 0) dX1_writes_0 rfl 0 rfl ?_
  refine r_iconst (pc := 1) dX1_writes_1 kc_iconst_1 ?_
  refine r_icmp_eq (pc := 2) (tgt := 20) dX1_writes_2 rfl (fun c => ?_) (fun c => ?_)
  · have h := it h c
    refine r_iconst (pc := 20) dX1_writes_20 kc_iconst_1 ?_
    refine r_goto (pc := 21) (tgt := 25) dX1_writes_21 rfl ?_
    subst h
    exact r_zret dX1_writes_25 (Or.inr rfl)
  · have h := ie h c
    refine r_iload_n (pc := 5) dX1_writes_5 rfl 0 rfl ?_
    refine r_iconst (pc := 6) dX1_writes_6 kc_iconst_3 ?_
    refine r_icmp_eq (pc := 7) (tgt := 20) dX1_writes_7 rfl (fun c => ?_) (fun c => ?_)
    · have h := it h c
      refine r_iconst (pc := 20) dX1_writes_20 kc_iconst_1 ?_
      refine r_goto (pc := 21) (tgt := 25) dX1_writes_21 rfl ?_
      subst h
      exact r_zret dX1_writes_25 (Or.inr rfl)
    · have h := ie h c
      refine r_iload_n (pc := 10) dX1_writes_10 rfl 0 rfl ?_
      refine r_iconst (pc := 11) dX1_writes_11 kc_iconst_4 ?_
      refine r_icmp_eq (pc := 12) (tgt := 20) dX1_writes_12 rfl (fun c => ?_) (fun c => ?_)
      · have h := it h c
        refine r_iconst (pc := 20) dX1_writes_20 kc_iconst_1 ?_
        refine r_goto (pc := 21) (tgt := 25) dX1_writes_21 rfl ?_
        subst h
        exact r_zret dX1_writes_25 (Or.inr rfl)
      · have h := ie h c
        refine r_iload_n (pc := 15) dX1_writes_15 rfl 0 rfl ?_
        refine r_iconst (pc := 16) dX1_writes_16 kc_iconst_5 ?_
        refine r_icmp_ne (pc := 17) (tgt := 24) dX1_writes_17 rfl (fun c => ?_) (fun c => ?_)
        · have h := ie h c
          refine r_iconst (pc := 24) dX1_writes_24 kc_iconst_0 ?_
          subst h
          exact r_zret dX1_writes_25 (Or.inl rfl)
        · have h := it h c
          refine r_iconst (pc := 20) dX1_writes_20 kc_iconst_1 ?_
          refine r_goto (pc := 21) (tgt := 25) dX1_writes_21 rfl ?_
          subst h
          exact r_zret dX1_writes_25 (Or.inr rfl)
abbrev WX1_powerSet (G : Gx) (l : Launch) (σ0 : Shp) (X1 : Stt) (rv : Option SV) : Stt → Nat → List (Nat × SV) → List SV → Prop := Wm G l yX1_powerSet cX1_powerSet 2 (some .int) (fun _ => True) (rmx 0 0 σ0 X1.1) σ0 (Qmx G σ0 X1 rv)
def fX1_powerSet (σ : Shp) (I : Nat → Nat → Int32) (t : Nat) (x1 : Int32) : Option ((Nat → Nat → Int32) × (Int32)) :=
  if kdx σ t = 2 then
  if (I t 5) = 0 then
    let I2 := u2 I t 6 x1
    some (I2, (1 : Int32))
  else
    some (I, (-3 : Int32))
  else none
theorem kX1_powerSet {G : Gx} {l : Launch} {σ : Shp} {I : Nat → Nat → Int32} {J : Nat → Nat → Int64} {D : Nat → Nat → UInt64} {R : Nat → Nat → Option Nat} {t : Nat} {x1 : Int32} {I9 : Nat → Nat → Int32} {r9 : Int32} (h : fX1_powerSet σ I t x1 = some (I9, r9)) : Con G l yX1_powerSet cX1_powerSet 2 (some .int) 0 0 [vR (some t), vI x1] (σ, I, J, D, R) (σ, I9, J, D, R) (some (vI r9)) := by
  unfold fX1_powerSet at h
  refine Con.mk (by decide +kernel) rfl (Nat.le_of_ble_eq_true rfl) ?_
  show WX1_powerSet G l σ (σ, I9, J, D, R) (some (vI r9)) (σ, I, J, D, R) 0 _ []
  refine r_aload_n (pc := 0) dX1_powerSet_0 rfl 0 rfl ?_
  obtain ⟨g1, h⟩ := gd h
  refine r_getI (pc := 1) dX1_powerSet_1 fgX1_25 rfl g1 ?_
  refine r_if_eq (pc := 4) (tgt := 10) dX1_powerSet_4 rfl (fun c => ?_) (fun c => ?_)
  · have h := it h c
    refine r_aload_n (pc := 10) dX1_powerSet_10 rfl 0 rfl ?_
    refine r_iload_n (pc := 11) dX1_powerSet_11 rfl 1 rfl ?_
    refine r_putI (pc := 12) dX1_powerSet_12 fwX1_21 rfl g1 ?_
    refine r_iconst (pc := 15) dX1_powerSet_15 kc_iconst_1 ?_
    cases h
    exact r_iret dX1_powerSet_16
  · have h := ie h c
    refine r_bipush (pc := 7) dX1_powerSet_7 kc_bipush_m3 ?_
    cases h
    exact r_iret dX1_powerSet_9
abbrev WX1_putNumber (G : Gx) (l : Launch) (σ0 : Shp) (X1 : Stt) (rv : Option SV) : Stt → Nat → List (Nat × SV) → List SV → Prop := Wm G l yX1_putNumber cX1_putNumber 6 none (fun _ => True) (rmx 0 0 σ0 X1.1) σ0 (Qmx G σ0 X1 rv)
def fX1_putNumber_l3  (σ : Shp) (R : Nat → Nat → Option Nat) (t : Nat) : Nat → (Nat → Nat → Int32) → (Int32) → (Int32) → (Int64) → (Int32) → Option ((Nat → Nat → Int32))
  | 0, _, _, _, _, _ => none
  | n + 1, I, x1, x2, x3, x5 =>
    if x2 ≤ x5 then
      some I
    else
      if (64 : Int32) ≤ (x1 + x5) then
        some I
      else
        if kdx σ t = 2 then
        ((R t 1) : Option Nat).bind fun a2 =>
        if kdx σ a2 = 20 then
        if ¬ ((x1 + x5) < 0 ∨ lnx σ a2 ≤ Int32.toNatClampNeg (x1 + x5)) then
        let I5 := u2 I a2 (Int32.toNatClampNeg (x1 + x5)) ((Int64.toInt32 (x3 >>> (Int32.toInt64 ((8 : Int32) * ((x2 - (1 : Int32)) - x5)) &&& 63))) &&& (255 : Int32))
        let v6 := x5 + (1 : Int32)
        fX1_putNumber_l3 σ R t n I5 x1 x2 x3 v6
        else none
        else none
        else none
theorem wX1_putNumber_l3 {G : Gx} {l : Launch} {σ : Shp} {J : Nat → Nat → Int64} {D : Nat → Nat → UInt64} {R : Nat → Nat → Option Nat} {t : Nat} {I9 : Nat → Nat → Int32} : ∀ (n : Nat) (I : Nat → Nat → Int32) (x1 : Int32) (x2 : Int32) (x3 : Int64) (x5 : Int32), fX1_putNumber_l3 σ R t n I x1 x2 x3 x5 = some I9 → WX1_putNumber G l σ (σ, I9, J, D, R) none (σ, I, J, D, R) 3 [(0, vR (some t)), (1, vI x1), (2, vI x2), (3, vL x3), (5, vI x5)] [] := by
  intro n
  induction n with
  | zero =>
    intro I x1 x2 x3 x5 h
    have h : none = some _ := h
    cases h
  | succ n ih =>
    intro I x1 x2 x3 x5 h
    rw [fX1_putNumber_l3] at h
    refine r_iload (pc := 3) dX1_putNumber_3 4 rfl ?_
    refine r_iload_n (pc := 5) dX1_putNumber_5 rfl 2 rfl ?_
    refine r_icmp_ge (pc := 6) (tgt := 49) dX1_putNumber_6 rfl (fun c => ?_) (fun c => ?_)
    · have h := it h c
      cases h
      exact r_vret dX1_putNumber_49
    · have h := ie h c
      refine r_iload_n (pc := 9) dX1_putNumber_9 rfl 1 rfl ?_
      refine r_iload (pc := 10) dX1_putNumber_10 4 rfl ?_
      refine r_iadd (pc := 12) dX1_putNumber_12 ?_
      refine r_bipush (pc := 13) dX1_putNumber_13 kc_bipush_64 ?_
      refine r_icmp_ge (pc := 15) (tgt := 49) dX1_putNumber_15 rfl (fun c => ?_) (fun c => ?_)
      · have h := it h c
        cases h
        exact r_vret dX1_putNumber_49
      · have h := ie h c
        refine r_aload_n (pc := 18) dX1_putNumber_18 rfl 0 rfl ?_
        obtain ⟨g1, h⟩ := gd h
        obtain ⟨a2, ha2, h⟩ := ob h
        refine r_getS (pc := 19) dX1_putNumber_19 fgX1_15 rfl g1 ha2 ?_
        refine r_iload_n (pc := 22) dX1_putNumber_22 rfl 1 rfl ?_
        refine r_iload (pc := 23) dX1_putNumber_23 4 rfl ?_
        refine r_iadd (pc := 25) dX1_putNumber_25 ?_
        refine r_lload_n (pc := 26) dX1_putNumber_26 rfl 3 rfl ?_
        refine r_bipush (pc := 27) dX1_putNumber_27 kc_bipush_8 ?_
        refine r_iload_n (pc := 29) dX1_putNumber_29 rfl 2 rfl ?_
        refine r_iconst (pc := 30) dX1_putNumber_30 kc_iconst_1 ?_
        refine r_isub (pc := 31) dX1_putNumber_31 ?_
        refine r_iload (pc := 32) dX1_putNumber_32 4 rfl ?_
        refine r_isub (pc := 34) dX1_putNumber_34 ?_
        refine r_imul (pc := 35) dX1_putNumber_35 ?_
        refine r_lshr (pc := 36) dX1_putNumber_36 ?_
        refine r_l2i (pc := 37) dX1_putNumber_37 ?_
        refine r_sipush (pc := 38) dX1_putNumber_38 kc_sipush_255 ?_
        refine r_iand (pc := 41) dX1_putNumber_41 ?_
        obtain ⟨g3, h⟩ := gd h
        obtain ⟨g4, h⟩ := gd h
        refine r_iastore (pc := 42) dX1_putNumber_42 g3 g4 ?_
        refine r_iinc (pc := 43) (v := (x5 + (1 : Int32))) (L' := [(5, vI (x5 + (1 : Int32))), (0, vR (some t)), (1, vI x1), (2, vI x2), (3, vL x3)]) dX1_putNumber_43 4 rfl (kc_inc_1 _) (by decide) rfl ?_
        refine r_goto (pc := 46) (tgt := 3) dX1_putNumber_46 rfl ?_
        refine r_sub [1, 2, 3, 4, 0] rfl ?_
        exact ih _ _ _ _ _ h
def fX1_putNumber (σ : Shp) (I : Nat → Nat → Int32) (R : Nat → Nat → Option Nat) (t : Nat) (x1 : Int32) (x2 : Int32) (x3 : Int64) : Option ((Nat → Nat → Int32)) :=
  fX1_putNumber_l3 σ R t FUx I x1 x2 x3 (0 : Int32)
theorem kX1_putNumber {G : Gx} {l : Launch} {σ : Shp} {I : Nat → Nat → Int32} {J : Nat → Nat → Int64} {D : Nat → Nat → UInt64} {R : Nat → Nat → Option Nat} {t : Nat} {x1 : Int32} {x2 : Int32} {x3 : Int64} {I9 : Nat → Nat → Int32} (h : fX1_putNumber σ I R t x1 x2 x3 = some I9) : Con G l yX1_putNumber cX1_putNumber 6 none 0 0 [vR (some t), vI x1, vI x2, vL x3] (σ, I, J, D, R) (σ, I9, J, D, R) none := by
  unfold fX1_putNumber at h
  refine Con.mk (by decide +kernel) rfl (Nat.le_of_ble_eq_true rfl) ?_
  show WX1_putNumber G l σ (σ, I9, J, D, R) none (σ, I, J, D, R) 0 _ []
  refine r_iconst (pc := 0) dX1_putNumber_0 kc_iconst_0 ?_
  refine r_istore (pc := 1) (L' := [(5, vI (0 : Int32)), (0, vR (some t)), (1, vI x1), (2, vI x2), (3, vL x3)]) dX1_putNumber_1 (by decide) rfl ?_
  refine r_sub [1, 2, 3, 4, 0] rfl ?_
  exact wX1_putNumber_l3 _ _ _ _ _ _ h
abbrev WXN_rotL (G : Gx) (l : Launch) (σ0 : Shp) (X1 : Stt) (rv : Option SV) : Stt → Nat → List (Nat × SV) → List SV → Prop := Wm G l yXN_rotL cXN_rotL 2 (some .int) (fun _ => True) (rmx 0 0 σ0 X1.1) σ0 (Qmx G σ0 X1 rv)
def fXN_rotL  (x0 : Int32) (x1 : Int32) : (Int32) :=
  ((x0 <<< (x1 &&& 31)) ||| ((Int32.toUInt32 x0 >>> (Int32.toUInt32 (-x1) &&& Int32.toUInt32 31)).toInt32))
theorem kXN_rotL {G : Gx} {l : Launch} {σ : Shp} {I : Nat → Nat → Int32} {J : Nat → Nat → Int64} {D : Nat → Nat → UInt64} {R : Nat → Nat → Option Nat} {x0 : Int32} {x1 : Int32} {r9 : Int32} (h : fXN_rotL x0 x1 = r9) : Con G l yXN_rotL cXN_rotL 2 (some .int) 0 0 [vI x0, vI x1] (σ, I, J, D, R) (σ, I, J, D, R) (some (vI r9)) := by
  unfold fXN_rotL at h
  refine Con.mkF (by decide +kernel) rfl (Nat.le_of_ble_eq_true rfl) ?_
  show WXN_rotL G l σ (σ, I, J, D, R) (some (vI r9)) (σ, I, J, D, R) 0 _ []
  refine r_iload_n (pc := 0) dXN_rotL_0 rfl 0 rfl ?_
  refine r_iload_n (pc := 1) dXN_rotL_1 rfl 1 rfl ?_
  refine r_ishl (pc := 2) dXN_rotL_2 ?_
  refine r_iload_n (pc := 3) dXN_rotL_3 rfl 0 rfl ?_
  refine r_iload_n (pc := 4) dXN_rotL_4 rfl 1 rfl ?_
  refine r_ineg (pc := 5) dXN_rotL_5 ?_
  refine r_iushr (pc := 6) dXN_rotL_6 ?_
  refine r_ior (pc := 7) dXN_rotL_7 ?_
  subst h
  exact r_iret dXN_rotL_8
abbrev WX1_sumOf (G : Gx) (l : Launch) (σ0 : Shp) (X1 : Stt) (rv : Option SV) : Stt → Nat → List (Nat × SV) → List SV → Prop := Wm G l yX1_sumOf cX1_sumOf 4 (some .int) (fun _ => True) (rmx 1 21 σ0 X1.1) σ0 (Qmx G σ0 X1 rv)
def fX1_sumOf_l4  (σ : Shp) (I : Nat → Nat → Int32) : Nat → (Option Nat) → (Int32) → (Int32) → (Int32) → Option ((Int32))
  | 0, _, _, _, _ => none
  | n + 1, x0, x1, x2, x3 =>
    if (60 : Int32) ≤ x3 then
      some x2
    else
      (x0 : Option Nat).bind fun a1 =>
      if kdx σ a1 = 20 then
      if (Int32.ofNat (lnx σ a1)) ≤ (x1 + x3) then
        some x2
      else
        if ¬ ((x1 + x3) < 0 ∨ lnx σ a1 ≤ Int32.toNatClampNeg (x1 + x3)) then
        let v4 := ((fXN_rotL (x2 ^^^ (I a1 (Int32.toNatClampNeg (x1 + x3)))) (11 : Int32)) * (-1028477387 : Int32))
        let v5 := x3 + (1 : Int32)
        fX1_sumOf_l4 σ I n x0 x1 v4 v5
        else none
      else none
theorem wX1_sumOf_l4 {G : Gx} {l : Launch} {σ : Shp} {I : Nat → Nat → Int32} {J : Nat → Nat → Int64} {D : Nat → Nat → UInt64} {R : Nat → Nat → Option Nat} {r9 : Int32} : ∀ (n : Nat) (x0 : Option Nat) (x1 : Int32) (x2 : Int32) (x3 : Int32), fX1_sumOf_l4 σ I n x0 x1 x2 x3 = some r9 → WX1_sumOf G l σ (σ, I, J, D, R) (some (vI r9)) (σ, I, J, D, R) 4 [(0, vR x0), (1, vI x1), (2, vI x2), (3, vI x3)] [] := by
  intro n
  induction n with
  | zero =>
    intro x0 x1 x2 x3 h
    have h : none = some _ := h
    cases h
  | succ n ih =>
    intro x0 x1 x2 x3 h
    rw [fX1_sumOf_l4] at h
    refine r_iload_n (pc := 4) dX1_sumOf_4 rfl 3 rfl ?_
    refine r_bipush (pc := 5) dX1_sumOf_5 kc_bipush_60 ?_
    refine r_icmp_ge (pc := 7) (tgt := 40) dX1_sumOf_7 rfl (fun c => ?_) (fun c => ?_)
    · have h := it h c
      refine r_iload_n (pc := 40) dX1_sumOf_40 rfl 2 rfl ?_
      cases h
      exact r_iret dX1_sumOf_41
    · have h := ie h c
      refine r_iload_n (pc := 10) dX1_sumOf_10 rfl 1 rfl ?_
      refine r_iload_n (pc := 11) dX1_sumOf_11 rfl 3 rfl ?_
      refine r_iadd (pc := 12) dX1_sumOf_12 ?_
      refine r_aload_n (pc := 13) dX1_sumOf_13 rfl 0 rfl ?_
      obtain ⟨a1, ha1, h⟩ := ob h
      refine r_ref0 ha1 ?_
      obtain ⟨g2, h⟩ := gd h
      refine r_alen (pc := 14) dX1_sumOf_14 g2 (by decide) ?_
      refine r_icmp_ge (pc := 15) (tgt := 40) dX1_sumOf_15 rfl (fun c => ?_) (fun c => ?_)
      · have h := it h c
        refine r_iload_n (pc := 40) dX1_sumOf_40 rfl 2 rfl ?_
        cases h
        exact r_iret dX1_sumOf_41
      · have h := ie h c
        refine r_iload_n (pc := 18) dX1_sumOf_18 rfl 2 rfl ?_
        refine r_aload_n (pc := 19) dX1_sumOf_19 rfl 0 rfl ?_
        refine r_ref0 ha1 ?_
        refine r_iload_n (pc := 20) dX1_sumOf_20 rfl 1 rfl ?_
        refine r_iload_n (pc := 21) dX1_sumOf_21 rfl 3 rfl ?_
        refine r_iadd (pc := 22) dX1_sumOf_22 ?_
        obtain ⟨g3, h⟩ := gd h
        refine r_iaload (pc := 23) dX1_sumOf_23 g2 g3 ?_
        refine r_ixor (pc := 24) dX1_sumOf_24 ?_
        refine r_bipush (pc := 25) dX1_sumOf_25 kc_bipush_11 ?_
        refine r_callS1 (pc := 27) (av := [vI (x2 ^^^ (I a1 (Int32.toNatClampNeg (x1 + x3)))), vI (11 : Int32)]) (S := []) dX1_sumOf_27 (kXN_rotL rfl) mkX1_54 mwXN_rotL rfl ⟨Nat.le_of_ble_eq_true rfl, Nat.le_of_ble_eq_true rfl⟩ (Nat.le_of_ble_eq_true rfl) ⟨Nat.le_refl _, Nat.le_refl _⟩ (fun b => b) ?_
        refine r_ldc (pc := 30) dX1_sumOf_30 ciX1_59 ?_
        refine r_imul (pc := 32) dX1_sumOf_32 ?_
        refine r_istore_n (pc := 33) (L' := [(2, vI ((fXN_rotL (x2 ^^^ (I a1 (Int32.toNatClampNeg (x1 + x3)))) (11 : Int32)) * (-1028477387 : Int32))), (0, vR x0), (1, vI x1), (3, vI x3)]) dX1_sumOf_33 rfl (by decide) rfl ?_
        refine r_iinc (pc := 34) (v := (x3 + (1 : Int32))) (L' := [(3, vI (x3 + (1 : Int32))), (2, vI ((fXN_rotL (x2 ^^^ (I a1 (Int32.toNatClampNeg (x1 + x3)))) (11 : Int32)) * (-1028477387 : Int32))), (0, vR x0), (1, vI x1)]) dX1_sumOf_34 3 rfl (kc_inc_1 _) (by decide) rfl ?_
        refine r_goto (pc := 37) (tgt := 4) dX1_sumOf_37 rfl ?_
        refine r_sub [2, 3, 1, 0] rfl ?_
        exact ih _ _ _ _ h
def fX1_sumOf (σ : Shp) (I : Nat → Nat → Int32) (x0 : Option Nat) (x1 : Int32) : Option ((Int32)) :=
  fX1_sumOf_l4 σ I FUx x0 x1 (0 : Int32) (0 : Int32)
theorem kX1_sumOf {G : Gx} {l : Launch} {σ : Shp} {I : Nat → Nat → Int32} {J : Nat → Nat → Int64} {D : Nat → Nat → UInt64} {R : Nat → Nat → Option Nat} {x0 : Option Nat} {x1 : Int32} {r9 : Int32} (h : fX1_sumOf σ I x0 x1 = some r9) : Con G l yX1_sumOf cX1_sumOf 4 (some .int) 1 21 [vR x0, vI x1] (σ, I, J, D, R) (σ, I, J, D, R) (some (vI r9)) := by
  unfold fX1_sumOf at h
  refine Con.mk (by decide +kernel) rfl (Nat.le_of_ble_eq_true rfl) ?_
  show WX1_sumOf G l σ (σ, I, J, D, R) (some (vI r9)) (σ, I, J, D, R) 0 _ []
  refine r_iconst (pc := 0) dX1_sumOf_0 kc_iconst_0 ?_
  refine r_istore_n (pc := 1) (L' := [(2, vI (0 : Int32)), (0, vR x0), (1, vI x1)]) dX1_sumOf_1 rfl (by decide) rfl ?_
  refine r_iconst (pc := 2) dX1_sumOf_2 kc_iconst_0 ?_
  refine r_istore_n (pc := 3) (L' := [(3, vI (0 : Int32)), (2, vI (0 : Int32)), (0, vR x0), (1, vI x1)]) dX1_sumOf_3 rfl (by decide) rfl ?_
  refine r_sub [2, 3, 1, 0] rfl ?_
  exact wX1_sumOf_l4 _ _ _ _ _ h
abbrev WX1_fillDraft (G : Gx) (l : Launch) (σ0 : Shp) (X1 : Stt) (rv : Option SV) : Stt → Nat → List (Nat × SV) → List SV → Prop := Wm G l yX1_fillDraft cX1_fillDraft 5 none (fun _ => True) (rmx 2 44 σ0 X1.1) σ0 (Qmx G σ0 X1 rv)
def fX1_fillDraft_l50  (σ : Shp) (J : Nat → Nat → Int64) (R : Nat → Nat → Option Nat) (t : Nat) : Nat → (Nat → Nat → Int32) → (Option Nat) → (Int32) → Option ((Nat → Nat → Int32))
  | 0, _, _, _ => none
  | n + 1, I, x3, x4 =>
    (x3 : Option Nat).bind fun a12 =>
    if kdx σ a12 = 21 then
    if (Int32.ofNat (lnx σ a12)) ≤ x4 then
      if kdx σ t = 2 then
      ((R t 1) : Option Nat).bind fun a15 =>
      (fX1_sumOf σ I (some a15) (0 : Int32)).bind fun r16 =>
      (fX1_putNumber σ I R t (60 : Int32) (4 : Int32) (Int32.toInt64 r16)).bind fun I18 =>
      some I18
      else none
    else
      if (6 : Int32) ≤ x4 then
        if kdx σ t = 2 then
        ((R t 1) : Option Nat).bind fun a21 =>
        (fX1_sumOf σ I (some a21) (0 : Int32)).bind fun r22 =>
        (fX1_putNumber σ I R t (60 : Int32) (4 : Int32) (Int32.toInt64 r22)).bind fun I24 =>
        some I24
        else none
      else
        if ¬ (x4 < 0 ∨ lnx σ a12 ≤ Int32.toNatClampNeg x4) then
        if kdx σ t = 2 then
        (fX1_putNumber σ I R t ((12 : Int32) + ((8 : Int32) * x4)) (8 : Int32) (J a12 (Int32.toNatClampNeg x4))).bind fun I28 =>
        let v30 := x4 + (1 : Int32)
        fX1_fillDraft_l50 σ J R t n I28 x3 v30
        else none
        else none
    else none
theorem wX1_fillDraft_l50 {G : Gx} {l : Launch} {σ : Shp} {J : Nat → Nat → Int64} {D : Nat → Nat → UInt64} {R : Nat → Nat → Option Nat} {t : Nat} {I9 : Nat → Nat → Int32} : ∀ (n : Nat) (I : Nat → Nat → Int32) (x3 : Option Nat) (x4 : Int32), fX1_fillDraft_l50 σ J R t n I x3 x4 = some I9 → WX1_fillDraft G l σ (σ, I9, J, D, R) none (σ, I, J, D, R) 50 [(0, vR (some t)), (3, vR x3), (4, vI x4)] [] := by
  intro n
  induction n with
  | zero =>
    intro I x3 x4 h
    have h : none = some _ := h
    cases h
  | succ n ih =>
    intro I x3 x4 h
    rw [fX1_fillDraft_l50] at h
    refine r_iload (pc := 50) dX1_fillDraft_50 2 rfl ?_
    refine r_aload_n (pc := 52) dX1_fillDraft_52 rfl 1 rfl ?_
    obtain ⟨a12, ha12, h⟩ := ob h
    refine r_ref0 ha12 ?_
    obtain ⟨g13, h⟩ := gd h
    refine r_alen (pc := 53) dX1_fillDraft_53 g13 (by decide) ?_
    refine r_icmp_ge (pc := 54) (tgt := 88) dX1_fillDraft_54 rfl (fun c => ?_) (fun c => ?_)
    · have h := it h c
      refine r_aload_n (pc := 88) dX1_fillDraft_88 rfl 0 rfl ?_
      refine r_bipush (pc := 89) dX1_fillDraft_89 kc_bipush_60 ?_
      refine r_iconst (pc := 91) dX1_fillDraft_91 kc_iconst_4 ?_
      refine r_aload_n (pc := 92) dX1_fillDraft_92 rfl 0 rfl ?_
      obtain ⟨g14, h⟩ := gd h
      obtain ⟨a15, ha15, h⟩ := ob h
      refine r_getS (pc := 93) dX1_fillDraft_93 fgX1_15 rfl g14 ha15 ?_
      refine r_iconst (pc := 96) dX1_fillDraft_96 kc_iconst_0 ?_
      obtain ⟨r16, hc17, h⟩ := ob h
      refine r_callS1 (pc := 97) (av := [vR (some a15), vI (0 : Int32)]) (S := [vI (4 : Int32), vI (60 : Int32), vR (some t)]) dX1_fillDraft_97 (kX1_sumOf hc17) mkX1_50 mwX1_sumOf rfl ⟨Nat.le_of_ble_eq_true rfl, Nat.le_of_ble_eq_true rfl⟩ (Nat.le_of_ble_eq_true rfl) ⟨Nat.le_refl _, Nat.le_refl _⟩ (fun b => b) ?_
      refine r_i2l (pc := 100) dX1_fillDraft_100 ?_
      obtain ⟨I18, hc19, h⟩ := ob h
      refine r_callV0 (pc := 101) (av := [vI (60 : Int32), vI (4 : Int32), vL (Int32.toInt64 r16)]) (S := []) dX1_fillDraft_101 (kX1_putNumber hc19) g14 rfl mkX1_46 mwX1_putNumber rfl ⟨Nat.le_of_ble_eq_true rfl, Nat.le_of_ble_eq_true rfl⟩ (Nat.le_of_ble_eq_true rfl) ⟨Nat.le_refl _, Nat.le_refl _⟩ (fun b => b) ?_
      cases h
      exact r_vret dX1_fillDraft_104
    · have h := ie h c
      refine r_iload (pc := 57) dX1_fillDraft_57 2 rfl ?_
      refine r_bipush (pc := 59) dX1_fillDraft_59 kc_bipush_6 ?_
      refine r_icmp_ge (pc := 61) (tgt := 88) dX1_fillDraft_61 rfl (fun c => ?_) (fun c => ?_)
      · have h := it h c
        refine r_aload_n (pc := 88) dX1_fillDraft_88 rfl 0 rfl ?_
        refine r_bipush (pc := 89) dX1_fillDraft_89 kc_bipush_60 ?_
        refine r_iconst (pc := 91) dX1_fillDraft_91 kc_iconst_4 ?_
        refine r_aload_n (pc := 92) dX1_fillDraft_92 rfl 0 rfl ?_
        obtain ⟨g20, h⟩ := gd h
        obtain ⟨a21, ha21, h⟩ := ob h
        refine r_getS (pc := 93) dX1_fillDraft_93 fgX1_15 rfl g20 ha21 ?_
        refine r_iconst (pc := 96) dX1_fillDraft_96 kc_iconst_0 ?_
        obtain ⟨r22, hc23, h⟩ := ob h
        refine r_callS1 (pc := 97) (av := [vR (some a21), vI (0 : Int32)]) (S := [vI (4 : Int32), vI (60 : Int32), vR (some t)]) dX1_fillDraft_97 (kX1_sumOf hc23) mkX1_50 mwX1_sumOf rfl ⟨Nat.le_of_ble_eq_true rfl, Nat.le_of_ble_eq_true rfl⟩ (Nat.le_of_ble_eq_true rfl) ⟨Nat.le_refl _, Nat.le_refl _⟩ (fun b => b) ?_
        refine r_i2l (pc := 100) dX1_fillDraft_100 ?_
        obtain ⟨I24, hc25, h⟩ := ob h
        refine r_callV0 (pc := 101) (av := [vI (60 : Int32), vI (4 : Int32), vL (Int32.toInt64 r22)]) (S := []) dX1_fillDraft_101 (kX1_putNumber hc25) g20 rfl mkX1_46 mwX1_putNumber rfl ⟨Nat.le_of_ble_eq_true rfl, Nat.le_of_ble_eq_true rfl⟩ (Nat.le_of_ble_eq_true rfl) ⟨Nat.le_refl _, Nat.le_refl _⟩ (fun b => b) ?_
        cases h
        exact r_vret dX1_fillDraft_104
      · have h := ie h c
        refine r_aload_n (pc := 64) dX1_fillDraft_64 rfl 0 rfl ?_
        refine r_bipush (pc := 65) dX1_fillDraft_65 kc_bipush_12 ?_
        refine r_bipush (pc := 67) dX1_fillDraft_67 kc_bipush_8 ?_
        refine r_iload (pc := 69) dX1_fillDraft_69 2 rfl ?_
        refine r_imul (pc := 71) dX1_fillDraft_71 ?_
        refine r_iadd (pc := 72) dX1_fillDraft_72 ?_
        refine r_bipush (pc := 73) dX1_fillDraft_73 kc_bipush_8 ?_
        refine r_aload_n (pc := 75) dX1_fillDraft_75 rfl 1 rfl ?_
        refine r_ref0 ha12 ?_
        refine r_iload (pc := 76) dX1_fillDraft_76 2 rfl ?_
        obtain ⟨g26, h⟩ := gd h
        refine r_laload (pc := 78) dX1_fillDraft_78 g13 g26 ?_
        obtain ⟨g27, h⟩ := gd h
        obtain ⟨I28, hc29, h⟩ := ob h
        refine r_callV0 (pc := 79) (av := [vI ((12 : Int32) + ((8 : Int32) * x4)), vI (8 : Int32), vL (J a12 (Int32.toNatClampNeg x4))]) (S := []) dX1_fillDraft_79 (kX1_putNumber hc29) g27 rfl mkX1_46 mwX1_putNumber rfl ⟨Nat.le_of_ble_eq_true rfl, Nat.le_of_ble_eq_true rfl⟩ (Nat.le_of_ble_eq_true rfl) ⟨Nat.le_refl _, Nat.le_refl _⟩ (fun b => b) ?_
        refine r_iinc (pc := 82) (v := (x4 + (1 : Int32))) (L' := [(4, vI (x4 + (1 : Int32))), (0, vR (some t)), (3, vR x3)]) dX1_fillDraft_82 2 rfl (kc_inc_1 _) (by decide) rfl ?_
        refine r_goto (pc := 85) (tgt := 50) dX1_fillDraft_85 rfl ?_
        refine r_sub [1, 2, 0] rfl ?_
        exact ih _ _ _ h
def fX1_fillDraft_l3  (σ : Shp) (J : Nat → Nat → Int64) (R : Nat → Nat → Option Nat) (t : Nat) : Nat → (Nat → Nat → Int32) → (Int32) → (Int32) → (Option Nat) → (Int32) → Option ((Nat → Nat → Int32))
  | 0, _, _, _, _, _ => none
  | n + 1, I, x1, x2, x3, x4 =>
    if (64 : Int32) ≤ x4 then
      if kdx σ t = 2 then
      (fX1_putNumber σ I R t (0 : Int32) (4 : Int32) (Int32.toInt64 x1)).bind fun I2 =>
      ((R t 1) : Option Nat).bind fun a4 =>
      if kdx σ a4 = 20 then
      if ¬ ((4 : Int32) < 0 ∨ lnx σ a4 ≤ Int32.toNatClampNeg (4 : Int32)) then
      let I7 := u2 I2 a4 (Int32.toNatClampNeg (4 : Int32)) x2
      (x3 : Option Nat).bind fun a8 =>
      if kdx σ a8 = 21 then
      if ¬ ((5 : Int32) < 0 ∨ lnx σ a4 ≤ Int32.toNatClampNeg (5 : Int32)) then
      let I11 := u2 I7 a4 (Int32.toNatClampNeg (5 : Int32)) (Int32.ofNat (lnx σ a8))
      fX1_fillDraft_l50 σ J R t FUx I11 x3 (0 : Int32)
      else none
      else none
      else none
      else none
      else none
    else
      if kdx σ t = 2 then
      ((R t 1) : Option Nat).bind fun a32 =>
      if kdx σ a32 = 20 then
      if ¬ (x4 < 0 ∨ lnx σ a32 ≤ Int32.toNatClampNeg x4) then
      let I35 := u2 I a32 (Int32.toNatClampNeg x4) (0 : Int32)
      let v36 := x4 + (1 : Int32)
      fX1_fillDraft_l3 σ J R t n I35 x1 x2 x3 v36
      else none
      else none
      else none
theorem wX1_fillDraft_l3 {G : Gx} {l : Launch} {σ : Shp} {J : Nat → Nat → Int64} {D : Nat → Nat → UInt64} {R : Nat → Nat → Option Nat} {t : Nat} {I9 : Nat → Nat → Int32} : ∀ (n : Nat) (I : Nat → Nat → Int32) (x1 : Int32) (x2 : Int32) (x3 : Option Nat) (x4 : Int32), fX1_fillDraft_l3 σ J R t n I x1 x2 x3 x4 = some I9 → WX1_fillDraft G l σ (σ, I9, J, D, R) none (σ, I, J, D, R) 3 [(0, vR (some t)), (1, vI x1), (2, vI x2), (3, vR x3), (4, vI x4)] [] := by
  intro n
  induction n with
  | zero =>
    intro I x1 x2 x3 x4 h
    have h : none = some _ := h
    cases h
  | succ n ih =>
    intro I x1 x2 x3 x4 h
    rw [fX1_fillDraft_l3] at h
    refine r_iload (pc := 3) dX1_fillDraft_3 4 rfl ?_
    refine r_bipush (pc := 5) dX1_fillDraft_5 kc_bipush_64 ?_
    refine r_icmp_ge (pc := 7) (tgt := 24) dX1_fillDraft_7 rfl (fun c => ?_) (fun c => ?_)
    · have h := it h c
      refine r_aload_n (pc := 24) dX1_fillDraft_24 rfl 0 rfl ?_
      refine r_iconst (pc := 25) dX1_fillDraft_25 kc_iconst_0 ?_
      refine r_iconst (pc := 26) dX1_fillDraft_26 kc_iconst_4 ?_
      refine r_iload_n (pc := 27) dX1_fillDraft_27 rfl 1 rfl ?_
      refine r_i2l (pc := 28) dX1_fillDraft_28 ?_
      obtain ⟨g1, h⟩ := gd h
      obtain ⟨I2, hc3, h⟩ := ob h
      refine r_callV0 (pc := 29) (av := [vI (0 : Int32), vI (4 : Int32), vL (Int32.toInt64 x1)]) (S := []) dX1_fillDraft_29 (kX1_putNumber hc3) g1 rfl mkX1_46 mwX1_putNumber rfl ⟨Nat.le_of_ble_eq_true rfl, Nat.le_of_ble_eq_true rfl⟩ (Nat.le_of_ble_eq_true rfl) ⟨Nat.le_refl _, Nat.le_refl _⟩ (fun b => b) ?_
      refine r_aload_n (pc := 32) dX1_fillDraft_32 rfl 0 rfl ?_
      obtain ⟨a4, ha4, h⟩ := ob h
      refine r_getS (pc := 33) dX1_fillDraft_33 fgX1_15 rfl g1 ha4 ?_
      refine r_iconst (pc := 36) dX1_fillDraft_36 kc_iconst_4 ?_
      refine r_iload_n (pc := 37) dX1_fillDraft_37 rfl 2 rfl ?_
      obtain ⟨g5, h⟩ := gd h
      obtain ⟨g6, h⟩ := gd h
      refine r_iastore (pc := 38) dX1_fillDraft_38 g5 g6 ?_
      refine r_aload_n (pc := 39) dX1_fillDraft_39 rfl 0 rfl ?_
      refine r_getS (pc := 40) dX1_fillDraft_40 fgX1_15 rfl g1 ha4 ?_
      refine r_iconst (pc := 43) dX1_fillDraft_43 kc_iconst_5 ?_
      refine r_aload_n (pc := 44) dX1_fillDraft_44 rfl 3 rfl ?_
      obtain ⟨a8, ha8, h⟩ := ob h
      refine r_ref0 ha8 ?_
      obtain ⟨g9, h⟩ := gd h
      refine r_alen (pc := 45) dX1_fillDraft_45 g9 (by decide) ?_
      obtain ⟨g10, h⟩ := gd h
      refine r_iastore (pc := 46) dX1_fillDraft_46 g5 g10 ?_
      refine r_iconst (pc := 47) dX1_fillDraft_47 kc_iconst_0 ?_
      refine r_istore (pc := 48) (L' := [(4, vI (0 : Int32)), (0, vR (some t)), (1, vI x1), (2, vI x2), (3, vR x3)]) dX1_fillDraft_48 (by decide) rfl ?_
      refine r_sub [1, 4, 0] rfl ?_
      exact wX1_fillDraft_l50 _ _ _ _ h
    · have h := ie h c
      refine r_aload_n (pc := 10) dX1_fillDraft_10 rfl 0 rfl ?_
      obtain ⟨g31, h⟩ := gd h
      obtain ⟨a32, ha32, h⟩ := ob h
      refine r_getS (pc := 11) dX1_fillDraft_11 fgX1_15 rfl g31 ha32 ?_
      refine r_iload (pc := 14) dX1_fillDraft_14 4 rfl ?_
      refine r_iconst (pc := 16) dX1_fillDraft_16 kc_iconst_0 ?_
      obtain ⟨g33, h⟩ := gd h
      obtain ⟨g34, h⟩ := gd h
      refine r_iastore (pc := 17) dX1_fillDraft_17 g33 g34 ?_
      refine r_iinc (pc := 18) (v := (x4 + (1 : Int32))) (L' := [(4, vI (x4 + (1 : Int32))), (0, vR (some t)), (1, vI x1), (2, vI x2), (3, vR x3)]) dX1_fillDraft_18 4 rfl (kc_inc_1 _) (by decide) rfl ?_
      refine r_goto (pc := 21) (tgt := 3) dX1_fillDraft_21 rfl ?_
      refine r_sub [1, 2, 3, 4, 0] rfl ?_
      exact ih _ _ _ _ _ h
def fX1_fillDraft (σ : Shp) (I : Nat → Nat → Int32) (J : Nat → Nat → Int64) (R : Nat → Nat → Option Nat) (t : Nat) (x1 : Int32) (x2 : Int32) (x3 : Option Nat) : Option ((Nat → Nat → Int32)) :=
  fX1_fillDraft_l3 σ J R t FUx I x1 x2 x3 (0 : Int32)
theorem kX1_fillDraft {G : Gx} {l : Launch} {σ : Shp} {I : Nat → Nat → Int32} {J : Nat → Nat → Int64} {D : Nat → Nat → UInt64} {R : Nat → Nat → Option Nat} {t : Nat} {x1 : Int32} {x2 : Int32} {x3 : Option Nat} {I9 : Nat → Nat → Int32} (h : fX1_fillDraft σ I J R t x1 x2 x3 = some I9) : Con G l yX1_fillDraft cX1_fillDraft 5 none 2 44 [vR (some t), vI x1, vI x2, vR x3] (σ, I, J, D, R) (σ, I9, J, D, R) none := by
  unfold fX1_fillDraft at h
  refine Con.mk (by decide +kernel) rfl (Nat.le_of_ble_eq_true rfl) ?_
  show WX1_fillDraft G l σ (σ, I9, J, D, R) none (σ, I, J, D, R) 0 _ []
  refine r_iconst (pc := 0) dX1_fillDraft_0 kc_iconst_0 ?_
  refine r_istore (pc := 1) (L' := [(4, vI (0 : Int32)), (0, vR (some t)), (1, vI x1), (2, vI x2), (3, vR x3)]) dX1_fillDraft_1 (by decide) rfl ?_
  refine r_sub [1, 2, 3, 4, 0] rfl ?_
  exact wX1_fillDraft_l3 _ _ _ _ _ _ h
abbrev WXM_minI (G : Gx) (l : Launch) (σ0 : Shp) (X1 : Stt) (rv : Option SV) : Stt → Nat → List (Nat × SV) → List SV → Prop := Wm G l yXM_minI cXM_minI 2 (some .int) (fun _ => True) (rmx 0 0 σ0 X1.1) σ0 (Qmx G σ0 X1 rv)
def fXM_minI  (x0 : Int32) (x1 : Int32) : (Int32) :=
  if x1 < x0 then
    x1
  else
    x0
theorem kXM_minI {G : Gx} {l : Launch} {σ : Shp} {I : Nat → Nat → Int32} {J : Nat → Nat → Int64} {D : Nat → Nat → UInt64} {R : Nat → Nat → Option Nat} {x0 : Int32} {x1 : Int32} {r9 : Int32} (h : fXM_minI x0 x1 = r9) : Con G l yXM_minI cXM_minI 2 (some .int) 0 0 [vI x0, vI x1] (σ, I, J, D, R) (σ, I, J, D, R) (some (vI r9)) := by
  unfold fXM_minI at h
  refine Con.mkF (by decide +kernel) rfl (Nat.le_of_ble_eq_true rfl) ?_
  show WXM_minI G l σ (σ, I, J, D, R) (some (vI r9)) (σ, I, J, D, R) 0 _ []
  refine r_iload_n (pc := 0) dXM_minI_0 rfl 0 rfl ?_
  refine r_iload_n (pc := 1) dXM_minI_1 rfl 1 rfl ?_
  refine r_icmp_gt (pc := 2) (tgt := 9) dXM_minI_2 rfl (fun c => ?_) (fun c => ?_)
  · have h := it h c
    refine r_iload_n (pc := 9) dXM_minI_9 rfl 1 rfl ?_
    subst h
    exact r_iret dXM_minI_10
  · have h := ie h c
    refine r_iload_n (pc := 5) dXM_minI_5 rfl 0 rfl ?_
    refine r_goto (pc := 6) (tgt := 10) dXM_minI_6 rfl ?_
    subst h
    exact r_iret dXM_minI_10
abbrev WX1_written (G : Gx) (l : Launch) (σ0 : Shp) (X1 : Stt) (rv : Option SV) : Stt → Nat → List (Nat × SV) → List SV → Prop := Wm G l yX1_written cX1_written 5 (some .int) (fun _ => True) (rmx 3 68 σ0 X1.1) σ0 (Qmx G σ0 X1 rv)
def fX1_written_b124  (σ : Shp) (J : Nat → Nat → Int64) (R : Nat → Nat → Option Nat) (t : Nat) (I : Nat → Nat → Int32) (x3 : Int32) : Option ((Nat → Nat → Int32) × (Int32)) :=
  if (64 : Int32) ≤ x3 then
    if kdx σ t = 2 then
    if (I t 6) = (-1 : Int32) then
      let I8 := u2 I t 3 ((I t 3) + (1 : Int32))
      some (I8, (I8 t 3))
    else
      let I9 := u2 I t 6 ((I t 6) - (64 : Int32))
      let I10 := u2 I9 t 3 ((I9 t 3) + (1 : Int32))
      some (I10, (I10 t 3))
    else none
  else
    if kdx σ t = 2 then
    let I12 := u2 I t 5 (1 : Int32)
    some (I12, (-3 : Int32))
    else none
theorem wX1_written_b124 {G : Gx} {l : Launch} {σ : Shp} {I : Nat → Nat → Int32} {J : Nat → Nat → Int64} {D : Nat → Nat → UInt64} {R : Nat → Nat → Option Nat} {t : Nat} {I9 : Nat → Nat → Int32} {r9 : Int32} {x3 : Int32} (h : fX1_written_b124 σ J R t I x3 = some (I9, r9)) : WX1_written G l σ (σ, I9, J, D, R) (some (vI r9)) (σ, I, J, D, R) 124 [(0, vR (some t)), (3, vI x3)] [] := by
  unfold fX1_written_b124 at h
  refine r_iload_n (pc := 124) dX1_written_124 rfl 1 rfl ?_
  refine r_bipush (pc := 125) dX1_written_125 kc_bipush_64 ?_
  refine r_icmp_ge (pc := 127) (tgt := 138) dX1_written_127 rfl (fun c => ?_) (fun c => ?_)
  · have h := it h c
    refine r_aload_n (pc := 138) dX1_written_138 rfl 0 rfl ?_
    obtain ⟨g7, h⟩ := gd h
    refine r_getI (pc := 139) dX1_written_139 fgX1_21 rfl g7 ?_
    refine r_iconst (pc := 142) dX1_written_142 kc_iconst_m1 ?_
    refine r_icmp_eq (pc := 143) (tgt := 157) dX1_written_143 rfl (fun c => ?_) (fun c => ?_)
    · have h := it h c
      refine r_aload_n (pc := 157) dX1_written_157 rfl 0 rfl ?_
      refine r_dup (pc := 158) dX1_written_158 rfl ?_
      refine r_getI (pc := 159) dX1_written_159 fgX1_32 rfl g7 ?_
      refine r_iconst (pc := 162) dX1_written_162 kc_iconst_1 ?_
      refine r_iadd (pc := 163) dX1_written_163 ?_
      refine r_putI (pc := 164) dX1_written_164 fwX1_32 rfl g7 ?_
      refine r_aload_n (pc := 167) dX1_written_167 rfl 0 rfl ?_
      refine r_getI (pc := 168) dX1_written_168 fgX1_32 rfl g7 ?_
      cases h
      exact r_iret dX1_written_171
    · have h := ie h c
      refine r_aload_n (pc := 146) dX1_written_146 rfl 0 rfl ?_
      refine r_dup (pc := 147) dX1_written_147 rfl ?_
      refine r_getI (pc := 148) dX1_written_148 fgX1_21 rfl g7 ?_
      refine r_bipush (pc := 151) dX1_written_151 kc_bipush_64 ?_
      refine r_isub (pc := 153) dX1_written_153 ?_
      refine r_putI (pc := 154) dX1_written_154 fwX1_21 rfl g7 ?_
      refine r_aload_n (pc := 157) dX1_written_157 rfl 0 rfl ?_
      refine r_dup (pc := 158) dX1_written_158 rfl ?_
      refine r_getI (pc := 159) dX1_written_159 fgX1_32 rfl g7 ?_
      refine r_iconst (pc := 162) dX1_written_162 kc_iconst_1 ?_
      refine r_iadd (pc := 163) dX1_written_163 ?_
      refine r_putI (pc := 164) dX1_written_164 fwX1_32 rfl g7 ?_
      refine r_aload_n (pc := 167) dX1_written_167 rfl 0 rfl ?_
      refine r_getI (pc := 168) dX1_written_168 fgX1_32 rfl g7 ?_
      cases h
      exact r_iret dX1_written_171
  · have h := ie h c
    refine r_aload_n (pc := 130) dX1_written_130 rfl 0 rfl ?_
    refine r_iconst (pc := 131) dX1_written_131 kc_iconst_1 ?_
    obtain ⟨g11, h⟩ := gd h
    refine r_putZ (pc := 132) dX1_written_132 fwX1_25 rfl (Or.inr rfl) g11 ?_
    refine r_bipush (pc := 135) dX1_written_135 kc_bipush_m3 ?_
    cases h
    exact r_iret dX1_written_137
def fX1_written_l76  (σ : Shp) (J : Nat → Nat → Int64) (R : Nat → Nat → Option Nat) (t : Nat) : Nat → (Nat → Nat → Int32) → (Int32) → (Int32) → Option ((Nat → Nat → Int32) × (Int32))
  | 0, _, _, _ => none
  | n + 1, I, x3, x4 =>
    if x3 ≤ x4 then
      if x3 ≤ 0 then
        fX1_written_b124 σ J R t I x3
      else
        if kdx σ t = 2 then
        let I14 := u2 I t 4 ((I t 4) + (1 : Int32))
        fX1_written_b124 σ J R t I14 x3
        else none
    else
      if kdx σ t = 2 then
      ((R t 0) : Option Nat).bind fun a16 =>
      ((R t 1) : Option Nat).bind fun a17 =>
      if kdx σ a17 = 20 then
      if ¬ (x4 < 0 ∨ lnx σ a17 ≤ Int32.toNatClampNeg x4) then
      if kdx σ a16 = 20 then
      if ¬ ((((I t 4) * (64 : Int32)) + x4) < 0 ∨ lnx σ a16 ≤ Int32.toNatClampNeg (((I t 4) * (64 : Int32)) + x4)) then
      let I22 := u2 I a16 (Int32.toNatClampNeg (((I t 4) * (64 : Int32)) + x4)) (I a17 (Int32.toNatClampNeg x4))
      let v23 := x4 + (1 : Int32)
      fX1_written_l76 σ J R t n I22 x3 v23
      else none
      else none
      else none
      else none
      else none
theorem wX1_written_l76 {G : Gx} {l : Launch} {σ : Shp} {J : Nat → Nat → Int64} {D : Nat → Nat → UInt64} {R : Nat → Nat → Option Nat} {t : Nat} {I9 : Nat → Nat → Int32} {r9 : Int32} : ∀ (n : Nat) (I : Nat → Nat → Int32) (x3 : Int32) (x4 : Int32), fX1_written_l76 σ J R t n I x3 x4 = some (I9, r9) → WX1_written G l σ (σ, I9, J, D, R) (some (vI r9)) (σ, I, J, D, R) 76 [(0, vR (some t)), (3, vI x3), (4, vI x4)] [] := by
  intro n
  induction n with
  | zero =>
    intro I x3 x4 h
    have h : none = some _ := h
    cases h
  | succ n ih =>
    intro I x3 x4 h
    rw [fX1_written_l76] at h
    refine r_iload (pc := 76) dX1_written_76 2 rfl ?_
    refine r_iload_n (pc := 78) dX1_written_78 rfl 1 rfl ?_
    refine r_icmp_ge (pc := 79) (tgt := 110) dX1_written_79 rfl (fun c => ?_) (fun c => ?_)
    · have h := it h c
      refine r_iload_n (pc := 110) dX1_written_110 rfl 1 rfl ?_
      refine r_if_le (pc := 111) (tgt := 124) dX1_written_111 rfl (fun c => ?_) (fun c => ?_)
      · have h := it h c
        refine r_sub [0, 1] rfl ?_
        exact wX1_written_b124 h
      · have h := ie h c
        refine r_aload_n (pc := 114) dX1_written_114 rfl 0 rfl ?_
        refine r_dup (pc := 115) dX1_written_115 rfl ?_
        obtain ⟨g13, h⟩ := gd h
        refine r_getI (pc := 116) dX1_written_116 fgX1_29 rfl g13 ?_
        refine r_iconst (pc := 119) dX1_written_119 kc_iconst_1 ?_
        refine r_iadd (pc := 120) dX1_written_120 ?_
        refine r_putI (pc := 121) dX1_written_121 fwX1_29 rfl g13 ?_
        refine r_sub [0, 1] rfl ?_
        exact wX1_written_b124 h
    · have h := ie h c
      refine r_aload_n (pc := 82) dX1_written_82 rfl 0 rfl ?_
      obtain ⟨g15, h⟩ := gd h
      obtain ⟨a16, ha16, h⟩ := ob h
      refine r_getS (pc := 83) dX1_written_83 fgX1_11 rfl g15 ha16 ?_
      refine r_aload_n (pc := 86) dX1_written_86 rfl 0 rfl ?_
      refine r_getI (pc := 87) dX1_written_87 fgX1_29 rfl g15 ?_
      refine r_bipush (pc := 90) dX1_written_90 kc_bipush_64 ?_
      refine r_imul (pc := 92) dX1_written_92 ?_
      refine r_iload (pc := 93) dX1_written_93 2 rfl ?_
      refine r_iadd (pc := 95) dX1_written_95 ?_
      refine r_aload_n (pc := 96) dX1_written_96 rfl 0 rfl ?_
      obtain ⟨a17, ha17, h⟩ := ob h
      refine r_getS (pc := 97) dX1_written_97 fgX1_15 rfl g15 ha17 ?_
      refine r_iload (pc := 100) dX1_written_100 2 rfl ?_
      obtain ⟨g18, h⟩ := gd h
      obtain ⟨g19, h⟩ := gd h
      refine r_iaload (pc := 102) dX1_written_102 g18 g19 ?_
      obtain ⟨g20, h⟩ := gd h
      obtain ⟨g21, h⟩ := gd h
      refine r_iastore (pc := 103) dX1_written_103 g20 g21 ?_
      refine r_iinc (pc := 104) (v := (x4 + (1 : Int32))) (L' := [(4, vI (x4 + (1 : Int32))), (0, vR (some t)), (3, vI x3)]) dX1_written_104 2 rfl (kc_inc_1 _) (by decide) rfl ?_
      refine r_goto (pc := 107) (tgt := 76) dX1_written_107 rfl ?_
      refine r_sub [1, 2, 0] rfl ?_
      exact ih _ _ _ h
def fX1_written (σ : Shp) (I : Nat → Nat → Int32) (J : Nat → Nat → Int64) (R : Nat → Nat → Option Nat) (t : Nat) (x1 : Int32) (x2 : Option Nat) : Option ((Nat → Nat → Int32) × (Int32)) :=
  if kdx σ t = 2 then
  if (I t 5) = 0 then
    (x2 : Option Nat).bind fun a2 =>
    if kdx σ a2 = 21 then
    if (6 : Int32) < (Int32.ofNat (lnx σ a2)) then
      some (I, (-4 : Int32))
    else
      if (20 : Int32) ≤ (I t 4) then
        some (I, (-4 : Int32))
      else
        if (I t 3) = (2147483647 : Int32) then
          some (I, (-4 : Int32))
        else
          (fX1_fillDraft σ I J R t ((I t 3) + (1 : Int32)) x1 (some a2)).bind fun I4 =>
          if (I4 t 6) = (-1 : Int32) then
            fX1_written_l76 σ J R t FUx I4 (64 : Int32) (0 : Int32)
          else
            let v6 := (fXM_minI (I4 t 6) (64 : Int32))
            fX1_written_l76 σ J R t FUx I4 v6 (0 : Int32)
    else none
  else
    some (I, (-3 : Int32))
  else none
theorem kX1_written {G : Gx} {l : Launch} {σ : Shp} {I : Nat → Nat → Int32} {J : Nat → Nat → Int64} {D : Nat → Nat → UInt64} {R : Nat → Nat → Option Nat} {t : Nat} {x1 : Int32} {x2 : Option Nat} {I9 : Nat → Nat → Int32} {r9 : Int32} (h : fX1_written σ I J R t x1 x2 = some (I9, r9)) : Con G l yX1_written cX1_written 5 (some .int) 3 68 [vR (some t), vI x1, vR x2] (σ, I, J, D, R) (σ, I9, J, D, R) (some (vI r9)) := by
  unfold fX1_written at h
  refine Con.mk (by decide +kernel) rfl (Nat.le_of_ble_eq_true rfl) ?_
  show WX1_written G l σ (σ, I9, J, D, R) (some (vI r9)) (σ, I, J, D, R) 0 _ []
  refine r_aload_n (pc := 0) dX1_written_0 rfl 0 rfl ?_
  obtain ⟨g1, h⟩ := gd h
  refine r_getI (pc := 1) dX1_written_1 fgX1_25 rfl g1 ?_
  refine r_if_eq (pc := 4) (tgt := 10) dX1_written_4 rfl (fun c => ?_) (fun c => ?_)
  · have h := it h c
    refine r_aload_n (pc := 10) dX1_written_10 rfl 2 rfl ?_
    obtain ⟨a2, ha2, h⟩ := ob h
    refine r_ref0 ha2 ?_
    obtain ⟨g3, h⟩ := gd h
    refine r_alen (pc := 11) dX1_written_11 g3 (by decide) ?_
    refine r_bipush (pc := 12) dX1_written_12 kc_bipush_6 ?_
    refine r_icmp_gt (pc := 14) (tgt := 35) dX1_written_14 rfl (fun c => ?_) (fun c => ?_)
    · have h := it h c
      refine r_bipush (pc := 35) dX1_written_35 kc_bipush_m4 ?_
      cases h
      exact r_iret dX1_written_37
    · have h := ie h c
      refine r_aload_n (pc := 17) dX1_written_17 rfl 0 rfl ?_
      refine r_getI (pc := 18) dX1_written_18 fgX1_29 rfl g1 ?_
      refine r_bipush (pc := 21) dX1_written_21 kc_bipush_20 ?_
      refine r_icmp_ge (pc := 23) (tgt := 35) dX1_written_23 rfl (fun c => ?_) (fun c => ?_)
      · have h := it h c
        refine r_bipush (pc := 35) dX1_written_35 kc_bipush_m4 ?_
        cases h
        exact r_iret dX1_written_37
      · have h := ie h c
        refine r_aload_n (pc := 26) dX1_written_26 rfl 0 rfl ?_
        refine r_getI (pc := 27) dX1_written_27 fgX1_32 rfl g1 ?_
        refine r_ldc (pc := 30) dX1_written_30 ciX1_35 ?_
        refine r_icmp_ne (pc := 32) (tgt := 38) dX1_written_32 rfl (fun c => ?_) (fun c => ?_)
        · have h := ie h c
          refine r_aload_n (pc := 38) dX1_written_38 rfl 0 rfl ?_
          refine r_aload_n (pc := 39) dX1_written_39 rfl 0 rfl ?_
          refine r_getI (pc := 40) dX1_written_40 fgX1_32 rfl g1 ?_
          refine r_iconst (pc := 43) dX1_written_43 kc_iconst_1 ?_
          refine r_iadd (pc := 44) dX1_written_44 ?_
          refine r_iload_n (pc := 45) dX1_written_45 rfl 1 rfl ?_
          refine r_aload_n (pc := 46) dX1_written_46 rfl 2 rfl ?_
          refine r_ref0 ha2 ?_
          obtain ⟨I4, hc5, h⟩ := ob h
          refine r_callV0 (pc := 47) (av := [vI ((I t 3) + (1 : Int32)), vI x1, vR (some a2)]) (S := []) dX1_written_47 (kX1_fillDraft hc5) g1 rfl mkX1_36 mwX1_fillDraft rfl ⟨Nat.le_of_ble_eq_true rfl, Nat.le_of_ble_eq_true rfl⟩ (Nat.le_of_ble_eq_true rfl) ⟨Nat.le_refl _, Nat.le_refl _⟩ (fun b => b) ?_
          refine r_aload_n (pc := 50) dX1_written_50 rfl 0 rfl ?_
          refine r_getI (pc := 51) dX1_written_51 fgX1_21 rfl g1 ?_
          refine r_iconst (pc := 54) dX1_written_54 kc_iconst_m1 ?_
          refine r_icmp_ne (pc := 55) (tgt := 63) dX1_written_55 rfl (fun c => ?_) (fun c => ?_)
          · have h := ie h c
            refine r_aload_n (pc := 63) dX1_written_63 rfl 0 rfl ?_
            refine r_getI (pc := 64) dX1_written_64 fgX1_21 rfl g1 ?_
            refine r_bipush (pc := 67) dX1_written_67 kc_bipush_64 ?_
            refine r_callS1 (pc := 69) (av := [vI (I4 t 6), vI (64 : Int32)]) (S := []) dX1_written_69 (kXM_minI rfl) mkX1_40 mwXM_minI rfl ⟨Nat.le_of_ble_eq_true rfl, Nat.le_of_ble_eq_true rfl⟩ (Nat.le_of_ble_eq_true rfl) ⟨Nat.le_refl _, Nat.le_refl _⟩ (fun b => b) ?_
            refine r_istore_n (pc := 72) (L' := [(3, vI (fXM_minI (I4 t 6) (64 : Int32))), (0, vR (some t)), (1, vI x1), (2, vR x2)]) dX1_written_72 rfl (by decide) rfl ?_
            refine r_iconst (pc := 73) dX1_written_73 kc_iconst_0 ?_
            refine r_istore (pc := 74) (L' := [(4, vI (0 : Int32)), (3, vI (fXM_minI (I4 t 6) (64 : Int32))), (0, vR (some t)), (1, vI x1), (2, vR x2)]) dX1_written_74 (by decide) rfl ?_
            refine r_sub [2, 1, 0] rfl ?_
            exact wX1_written_l76 _ _ _ _ h
          · have h := it h c
            refine r_bipush (pc := 58) dX1_written_58 kc_bipush_64 ?_
            refine r_goto (pc := 60) (tgt := 72) dX1_written_60 rfl ?_
            refine r_istore_n (pc := 72) (L' := [(3, vI (64 : Int32)), (0, vR (some t)), (1, vI x1), (2, vR x2)]) dX1_written_72 rfl (by decide) rfl ?_
            refine r_iconst (pc := 73) dX1_written_73 kc_iconst_0 ?_
            refine r_istore (pc := 74) (L' := [(4, vI (0 : Int32)), (3, vI (64 : Int32)), (0, vR (some t)), (1, vI x1), (2, vR x2)]) dX1_written_74 (by decide) rfl ?_
            refine r_sub [2, 1, 0] rfl ?_
            exact wX1_written_l76 _ _ _ _ h
        · have h := it h c
          refine r_bipush (pc := 35) dX1_written_35 kc_bipush_m4 ?_
          cases h
          exact r_iret dX1_written_37
  · have h := ie h c
    refine r_bipush (pc := 7) dX1_written_7 kc_bipush_m3 ?_
    cases h
    exact r_iret dX1_written_9
abbrev WX1_numberAt (G : Gx) (l : Launch) (σ0 : Shp) (X1 : Stt) (rv : Option SV) : Stt → Nat → List (Nat × SV) → List SV → Prop := Wm G l yX1_numberAt cX1_numberAt 7 (some .long) (fun _ => True) (rmx 1 21 σ0 X1.1) σ0 (Qmx G σ0 X1 rv)
def fX1_numberAt_l6  (σ : Shp) (I : Nat → Nat → Int32) (R : Nat → Nat → Option Nat) (t : Nat) : Nat → (Int32) → (Int32) → (Int32) → (Int64) → (Int32) → Option ((Int64))
  | 0, _, _, _, _, _ => none
  | n + 1, x1, x2, x3, x4, x6 =>
    if x3 ≤ x6 then
      some x4
    else
      if (fX1_isByte x1 (x2 + x6)) = 0 then
        some x4
      else
        if kdx σ t = 2 then
        ((R t 0) : Option Nat).bind fun a2 =>
        if kdx σ a2 = 20 then
        if ¬ ((((x1 * (64 : Int32)) + x2) + x6) < 0 ∨ lnx σ a2 ≤ Int32.toNatClampNeg (((x1 * (64 : Int32)) + x2) + x6)) then
        let v5 := ((x4 <<< (Int32.toInt64 (8 : Int32) &&& 63)) ||| (Int32.toInt64 (I a2 (Int32.toNatClampNeg (((x1 * (64 : Int32)) + x2) + x6)))))
        let v6 := x6 + (1 : Int32)
        fX1_numberAt_l6 σ I R t n x1 x2 x3 v5 v6
        else none
        else none
        else none
theorem wX1_numberAt_l6 {G : Gx} {l : Launch} {σ : Shp} {I : Nat → Nat → Int32} {J : Nat → Nat → Int64} {D : Nat → Nat → UInt64} {R : Nat → Nat → Option Nat} {t : Nat} {r9 : Int64} : ∀ (n : Nat) (x1 : Int32) (x2 : Int32) (x3 : Int32) (x4 : Int64) (x6 : Int32), fX1_numberAt_l6 σ I R t n x1 x2 x3 x4 x6 = some r9 → WX1_numberAt G l σ (σ, I, J, D, R) (some (vL r9)) (σ, I, J, D, R) 6 [(0, vR (some t)), (1, vI x1), (2, vI x2), (3, vI x3), (4, vL x4), (6, vI x6)] [] := by
  intro n
  induction n with
  | zero =>
    intro x1 x2 x3 x4 x6 h
    have h : none = some _ := h
    cases h
  | succ n ih =>
    intro x1 x2 x3 x4 x6 h
    rw [fX1_numberAt_l6] at h
    refine r_iload (pc := 6) dX1_numberAt_6 5 rfl ?_
    refine r_iload_n (pc := 8) dX1_numberAt_8 rfl 3 rfl ?_
    refine r_icmp_ge (pc := 9) (tgt := 52) dX1_numberAt_9 rfl (fun c => ?_) (fun c => ?_)
    · have h := it h c
      refine r_lload (pc := 52) dX1_numberAt_52 4 rfl ?_
      cases h
      exact r_lret dX1_numberAt_54
    · have h := ie h c
      refine r_iload_n (pc := 12) dX1_numberAt_12 rfl 1 rfl ?_
      refine r_iload_n (pc := 13) dX1_numberAt_13 rfl 2 rfl ?_
      refine r_iload (pc := 14) dX1_numberAt_14 5 rfl ?_
      refine r_iadd (pc := 16) dX1_numberAt_16 ?_
      refine r_callS1 (pc := 17) (av := [vI x1, vI (x2 + x6)]) (S := []) dX1_numberAt_17 (kX1_isByte rfl) mkX1_60 mwX1_isByte rfl ⟨Nat.le_of_ble_eq_true rfl, Nat.le_of_ble_eq_true rfl⟩ (Nat.le_of_ble_eq_true rfl) ⟨Nat.le_refl _, Nat.le_refl _⟩ (fun b => b) ?_
      refine r_if_eq (pc := 20) (tgt := 52) dX1_numberAt_20 rfl (fun c => ?_) (fun c => ?_)
      · have h := it h c
        refine r_lload (pc := 52) dX1_numberAt_52 4 rfl ?_
        cases h
        exact r_lret dX1_numberAt_54
      · have h := ie h c
        refine r_lload (pc := 23) dX1_numberAt_23 4 rfl ?_
        refine r_bipush (pc := 25) dX1_numberAt_25 kc_bipush_8 ?_
        refine r_lshl (pc := 27) dX1_numberAt_27 ?_
        refine r_aload_n (pc := 28) dX1_numberAt_28 rfl 0 rfl ?_
        obtain ⟨g1, h⟩ := gd h
        obtain ⟨a2, ha2, h⟩ := ob h
        refine r_getS (pc := 29) dX1_numberAt_29 fgX1_11 rfl g1 ha2 ?_
        refine r_iload_n (pc := 32) dX1_numberAt_32 rfl 1 rfl ?_
        refine r_bipush (pc := 33) dX1_numberAt_33 kc_bipush_64 ?_
        refine r_imul (pc := 35) dX1_numberAt_35 ?_
        refine r_iload_n (pc := 36) dX1_numberAt_36 rfl 2 rfl ?_
        refine r_iadd (pc := 37) dX1_numberAt_37 ?_
        refine r_iload (pc := 38) dX1_numberAt_38 5 rfl ?_
        refine r_iadd (pc := 40) dX1_numberAt_40 ?_
        obtain ⟨g3, h⟩ := gd h
        obtain ⟨g4, h⟩ := gd h
        refine r_iaload (pc := 41) dX1_numberAt_41 g3 g4 ?_
        refine r_i2l (pc := 42) dX1_numberAt_42 ?_
        refine r_lor (pc := 43) dX1_numberAt_43 ?_
        refine r_lstore (pc := 44) (L' := [(4, vL ((x4 <<< (Int32.toInt64 (8 : Int32) &&& 63)) ||| (Int32.toInt64 (I a2 (Int32.toNatClampNeg (((x1 * (64 : Int32)) + x2) + x6)))))), (0, vR (some t)), (1, vI x1), (2, vI x2), (3, vI x3), (6, vI x6)]) dX1_numberAt_44 (by decide) rfl ?_
        refine r_iinc (pc := 46) (v := (x6 + (1 : Int32))) (L' := [(6, vI (x6 + (1 : Int32))), (4, vL ((x4 <<< (Int32.toInt64 (8 : Int32) &&& 63)) ||| (Int32.toInt64 (I a2 (Int32.toNatClampNeg (((x1 * (64 : Int32)) + x2) + x6)))))), (0, vR (some t)), (1, vI x1), (2, vI x2), (3, vI x3)]) dX1_numberAt_46 5 rfl (kc_inc_1 _) (by decide) rfl ?_
        refine r_goto (pc := 49) (tgt := 6) dX1_numberAt_49 rfl ?_
        refine r_sub [2, 3, 4, 5, 1, 0] rfl ?_
        exact ih _ _ _ _ _ h
def fX1_numberAt (σ : Shp) (I : Nat → Nat → Int32) (R : Nat → Nat → Option Nat) (t : Nat) (x1 : Int32) (x2 : Int32) (x3 : Int32) : Option ((Int64)) :=
  fX1_numberAt_l6 σ I R t FUx x1 x2 x3 (0 : Int64) (0 : Int32)
theorem kX1_numberAt {G : Gx} {l : Launch} {σ : Shp} {I : Nat → Nat → Int32} {J : Nat → Nat → Int64} {D : Nat → Nat → UInt64} {R : Nat → Nat → Option Nat} {t : Nat} {x1 : Int32} {x2 : Int32} {x3 : Int32} {r9 : Int64} (h : fX1_numberAt σ I R t x1 x2 x3 = some r9) : Con G l yX1_numberAt cX1_numberAt 7 (some .long) 1 21 [vR (some t), vI x1, vI x2, vI x3] (σ, I, J, D, R) (σ, I, J, D, R) (some (vL r9)) := by
  unfold fX1_numberAt at h
  refine Con.mk (by decide +kernel) rfl (Nat.le_of_ble_eq_true rfl) ?_
  show WX1_numberAt G l σ (σ, I, J, D, R) (some (vL r9)) (σ, I, J, D, R) 0 _ []
  refine r_lconst (pc := 0) dX1_numberAt_0 kc_lconst_0 ?_
  refine r_lstore (pc := 1) (L' := [(4, vL (0 : Int64)), (0, vR (some t)), (1, vI x1), (2, vI x2), (3, vI x3)]) dX1_numberAt_1 (by decide) rfl ?_
  refine r_iconst (pc := 3) dX1_numberAt_3 kc_iconst_0 ?_
  refine r_istore (pc := 4) (L' := [(6, vI (0 : Int32)), (4, vL (0 : Int64)), (0, vR (some t)), (1, vI x1), (2, vI x2), (3, vI x3)]) dX1_numberAt_4 (by decide) rfl ?_
  refine r_sub [2, 3, 4, 5, 1, 0] rfl ?_
  exact wX1_numberAt_l6 _ _ _ _ _ _ h
abbrev WX1_numberOf (G : Gx) (l : Launch) (σ0 : Shp) (X1 : Stt) (rv : Option SV) : Stt → Nat → List (Nat × SV) → List SV → Prop := Wm G l yX1_numberOf cX1_numberOf 2 (some .int) (fun _ => True) (rmx 2 47 σ0 X1.1) σ0 (Qmx G σ0 X1 rv)
def fX1_numberOf (σ : Shp) (I : Nat → Nat → Int32) (R : Nat → Nat → Option Nat) (t : Nat) (x1 : Int32) : Option ((Int32)) :=
  if kdx σ t = 2 then
  (fX1_numberAt σ I R t x1 (0 : Int32) (4 : Int32)).bind fun r2 =>
  some (Int64.toInt32 r2)
  else none
theorem kX1_numberOf {G : Gx} {l : Launch} {σ : Shp} {I : Nat → Nat → Int32} {J : Nat → Nat → Int64} {D : Nat → Nat → UInt64} {R : Nat → Nat → Option Nat} {t : Nat} {x1 : Int32} {r9 : Int32} (h : fX1_numberOf σ I R t x1 = some r9) : Con G l yX1_numberOf cX1_numberOf 2 (some .int) 2 47 [vR (some t), vI x1] (σ, I, J, D, R) (σ, I, J, D, R) (some (vI r9)) := by
  unfold fX1_numberOf at h
  refine Con.mk (by decide +kernel) rfl (Nat.le_of_ble_eq_true rfl) ?_
  show WX1_numberOf G l σ (σ, I, J, D, R) (some (vI r9)) (σ, I, J, D, R) 0 _ []
  refine r_aload_n (pc := 0) dX1_numberOf_0 rfl 0 rfl ?_
  refine r_iload_n (pc := 1) dX1_numberOf_1 rfl 1 rfl ?_
  refine r_iconst (pc := 2) dX1_numberOf_2 kc_iconst_0 ?_
  refine r_iconst (pc := 3) dX1_numberOf_3 kc_iconst_4 ?_
  obtain ⟨g1, h⟩ := gd h
  obtain ⟨r2, hc3, h⟩ := ob h
  refine r_callV1 (pc := 4) (av := [vI x1, vI (0 : Int32), vI (4 : Int32)]) (S := []) dX1_numberOf_4 (kX1_numberAt hc3) g1 rfl mkX1_64 mwX1_numberAt rfl ⟨Nat.le_of_ble_eq_true rfl, Nat.le_of_ble_eq_true rfl⟩ (Nat.le_of_ble_eq_true rfl) ⟨Nat.le_refl _, Nat.le_refl _⟩ (fun b => b) ?_
  refine r_l2i (pc := 7) dX1_numberOf_7 ?_
  cases h
  exact r_iret dX1_numberOf_8
abbrev WX1_allZero (G : Gx) (l : Launch) (σ0 : Shp) (X1 : Stt) (rv : Option SV) : Stt → Nat → List (Nat × SV) → List SV → Prop := Wm G l yX1_allZero cX1_allZero 5 (some .boolean) (fun _ => True) (rmx 2 47 σ0 X1.1) σ0 (Qmx G σ0 X1 rv)
def fX1_allZero_l3  (σ : Shp) (I : Nat → Nat → Int32) (R : Nat → Nat → Option Nat) (t : Nat) : Nat → (Int32) → (Int32) → (Int32) → Option ((Int32))
  | 0, _, _, _ => none
  | n + 1, x1, x3, x4 =>
    if x3 ≤ x4 then
      some (1 : Int32)
    else
      if kdx σ t = 2 then
      (fX1_numberAt σ I R t x1 x4 (1 : Int32)).bind fun r2 =>
      if r2 = (0 : Int64) then
        let v4 := x4 + (1 : Int32)
        fX1_allZero_l3 σ I R t n x1 x3 v4
      else
        some (0 : Int32)
      else none
theorem wX1_allZero_l3 {G : Gx} {l : Launch} {σ : Shp} {I : Nat → Nat → Int32} {J : Nat → Nat → Int64} {D : Nat → Nat → UInt64} {R : Nat → Nat → Option Nat} {t : Nat} {r9 : Int32} : ∀ (n : Nat) (x1 : Int32) (x3 : Int32) (x4 : Int32), fX1_allZero_l3 σ I R t n x1 x3 x4 = some r9 → WX1_allZero G l σ (σ, I, J, D, R) (some (vI r9)) (σ, I, J, D, R) 3 [(0, vR (some t)), (1, vI x1), (3, vI x3), (4, vI x4)] [] := by
  intro n
  induction n with
  | zero =>
    intro x1 x3 x4 h
    have h : none = some _ := h
    cases h
  | succ n ih =>
    intro x1 x3 x4 h
    rw [fX1_allZero_l3] at h
    refine r_iload (pc := 3) dX1_allZero_3 3 rfl ?_
    refine r_iload_n (pc := 5) dX1_allZero_5 rfl 2 rfl ?_
    refine r_icmp_ge (pc := 6) (tgt := 30) dX1_allZero_6 rfl (fun c => ?_) (fun c => ?_)
    · have h := it h c
      refine r_iconst (pc := 30) dX1_allZero_30 kc_iconst_1 ?_
      cases h
      exact r_zret dX1_allZero_31 (Or.inr rfl)
    · have h := ie h c
      refine r_aload_n (pc := 9) dX1_allZero_9 rfl 0 rfl ?_
      refine r_iload_n (pc := 10) dX1_allZero_10 rfl 1 rfl ?_
      refine r_iload (pc := 11) dX1_allZero_11 3 rfl ?_
      refine r_iconst (pc := 13) dX1_allZero_13 kc_iconst_1 ?_
      obtain ⟨g1, h⟩ := gd h
      obtain ⟨r2, hc3, h⟩ := ob h
      refine r_callV1 (pc := 14) (av := [vI x1, vI x4, vI (1 : Int32)]) (S := []) dX1_allZero_14 (kX1_numberAt hc3) g1 rfl mkX1_64 mwX1_numberAt rfl ⟨Nat.le_of_ble_eq_true rfl, Nat.le_of_ble_eq_true rfl⟩ (Nat.le_of_ble_eq_true rfl) ⟨Nat.le_refl _, Nat.le_refl _⟩ (fun b => b) ?_
      refine r_lconst (pc := 17) dX1_allZero_17 kc_lconst_0 ?_
      refine r_lcmp (pc := 18) dX1_allZero_18 ?_
      refine r_if_eq (pc := 19) (tgt := 24) dX1_allZero_19 rfl (fun c => ?_) (fun c => ?_)
      · have h := it h (lgc_eq.mp c)
        refine r_iinc (pc := 24) (v := (x4 + (1 : Int32))) (L' := [(4, vI (x4 + (1 : Int32))), (0, vR (some t)), (1, vI x1), (3, vI x3)]) dX1_allZero_24 3 rfl (kc_inc_1 _) (by decide) rfl ?_
        refine r_goto (pc := 27) (tgt := 3) dX1_allZero_27 rfl ?_
        refine r_sub [1, 2, 3, 0] rfl ?_
        exact ih _ _ _ h
      · have h := ie h (fun q => c (lgc_eq.mpr q))
        refine r_iconst (pc := 22) dX1_allZero_22 kc_iconst_0 ?_
        cases h
        exact r_zret dX1_allZero_23 (Or.inl rfl)
def fX1_allZero (σ : Shp) (I : Nat → Nat → Int32) (R : Nat → Nat → Option Nat) (t : Nat) (x1 : Int32) (x2 : Int32) (x3 : Int32) : Option ((Int32)) :=
  fX1_allZero_l3 σ I R t FUx x1 x3 x2
theorem kX1_allZero {G : Gx} {l : Launch} {σ : Shp} {I : Nat → Nat → Int32} {J : Nat → Nat → Int64} {D : Nat → Nat → UInt64} {R : Nat → Nat → Option Nat} {t : Nat} {x1 : Int32} {x2 : Int32} {x3 : Int32} {r9 : Int32} (h : fX1_allZero σ I R t x1 x2 x3 = some r9) : Con G l yX1_allZero cX1_allZero 5 (some .boolean) 2 47 [vR (some t), vI x1, vI x2, vI x3] (σ, I, J, D, R) (σ, I, J, D, R) (some (vI r9)) := by
  unfold fX1_allZero at h
  refine Con.mk (by decide +kernel) rfl (Nat.le_of_ble_eq_true rfl) ?_
  show WX1_allZero G l σ (σ, I, J, D, R) (some (vI r9)) (σ, I, J, D, R) 0 _ []
  refine r_iload_n (pc := 0) dX1_allZero_0 rfl 2 rfl ?_
  refine r_istore (pc := 1) (L' := [(4, vI x2), (0, vR (some t)), (1, vI x1), (2, vI x2), (3, vI x3)]) dX1_allZero_1 (by decide) rfl ?_
  refine r_sub [1, 2, 4, 0] rfl ?_
  exact wX1_allZero_l3 _ _ _ _ h
abbrev WX11_isNumber (G : Gx) (l : Launch) (σ0 : Shp) (X1 : Stt) (rv : Option SV) : Stt → Nat → List (Nat × SV) → List SV → Prop := Wm G l yX11_isNumber cX11_isNumber 2 (some .boolean) (fun _ => True) (rmx 0 0 σ0 X1.1) σ0 (Qmx G σ0 X1 rv)
def fX11_isNumber  (x0 : Int64) : (Int32) :=
  if (9218868437227405312 : Int64) < (x0 &&& (9223372036854775807 : Int64)) then
    (0 : Int32)
  else
    (1 : Int32)
theorem zX11_isNumber  (x0 : Int64) : fX11_isNumber x0 = 0 ∨ fX11_isNumber x0 = 1 := by
  unfold fX11_isNumber
  repeat' (first | refine itz ?_ ?_ | exact Or.inl rfl | exact Or.inr rfl)
theorem kX11_isNumber {G : Gx} {l : Launch} {σ : Shp} {I : Nat → Nat → Int32} {J : Nat → Nat → Int64} {D : Nat → Nat → UInt64} {R : Nat → Nat → Option Nat} {x0 : Int64} {r9 : Int32} (h : fX11_isNumber x0 = r9) : Con G l yX11_isNumber cX11_isNumber 2 (some .boolean) 0 0 [vL x0] (σ, I, J, D, R) (σ, I, J, D, R) (some (vI r9)) := by
  unfold fX11_isNumber at h
  refine Con.mk (by decide +kernel) rfl (Nat.le_of_ble_eq_true rfl) ?_
  show WX11_isNumber G l σ (σ, I, J, D, R) (some (vI r9)) (σ, I, J, D, R) 0 _ []
  refine r_lload_n (pc := 0) dX11_isNumber_0 rfl 0 rfl ?_
  refine r_ldc2 (pc := 1) dX11_isNumber_1 clX11_532 ?_
  refine r_land (pc := 4) dX11_isNumber_4 ?_
  refine r_ldc2 (pc := 5) dX11_isNumber_5 clX11_534 ?_
  refine r_lcmp (pc := 8) dX11_isNumber_8 ?_
  refine r_ifgt (pc := 9) (tgt := 16) dX11_isNumber_9 rfl (fun c => ?_) (fun c => ?_)
  · have h := it h (lgc_gt.mp c)
    refine r_iconst (pc := 16) dX11_isNumber_16 kc_iconst_0 ?_
    subst h
    exact r_zret dX11_isNumber_17 (Or.inl rfl)
  · have h := ie h (fun q => c (lgc_gt.mpr q))
    refine r_iconst (pc := 12) dX11_isNumber_12 kc_iconst_1 ?_
    refine r_goto (pc := 13) (tgt := 17) dX11_isNumber_13 rfl ?_
    subst h
    exact r_zret dX11_isNumber_17 (Or.inr rfl)
abbrev WX11_cellOf (G : Gx) (l : Launch) (σ0 : Shp) (X1 : Stt) (rv : Option SV) : Stt → Nat → List (Nat × SV) → List SV → Prop := Wm G l yX11_cellOf cX11_cellOf 3 (some .long) (fun _ => True) (rmx 1 21 σ0 X1.1) σ0 (Qmx G σ0 X1 rv)
def fX11_cellOf  (x0 : Int32) (x1 : Int64) : (Int64) :=
  if x0 = (0 : Int32) then
    (x1 &&& (1 : Int64))
  else
  if x0 = (1 : Int32) then
    (Int32.toInt64 ((Int32.toInt8 (Int64.toInt32 x1)).toInt32))
  else
  if x0 = (2 : Int32) then
    (x1 &&& (65535 : Int64))
  else
  if x0 = (3 : Int32) then
    (Int32.toInt64 ((Int32.toInt16 (Int64.toInt32 x1)).toInt32))
  else
  if x0 = (4 : Int32) then
    (Int32.toInt64 (Int64.toInt32 x1))
  else
  if x0 = (5 : Int32) then
    x1
  else
  if x0 = (6 : Int32) then
    if (x1 &&& (2147483647 : Int64)) ≤ (2139095040 : Int64) then
      (Int32.toInt64 (Int64.toInt32 x1))
    else
      (2143289344 : Int64)
  else
  if x0 = (7 : Int32) then
    if (fX11_isNumber x1) = 0 then
      (9221120237041090560 : Int64)
    else
      x1
  else
  x1
theorem kX11_cellOf {G : Gx} {l : Launch} {σ : Shp} {I : Nat → Nat → Int32} {J : Nat → Nat → Int64} {D : Nat → Nat → UInt64} {R : Nat → Nat → Option Nat} {x0 : Int32} {x1 : Int64} {r9 : Int64} (h : fX11_cellOf x0 x1 = r9) : Con G l yX11_cellOf cX11_cellOf 3 (some .long) 1 21 [vI x0, vL x1] (σ, I, J, D, R) (σ, I, J, D, R) (some (vL r9)) := by
  unfold fX11_cellOf at h
  refine Con.mk (by decide +kernel) rfl (Nat.le_of_ble_eq_true rfl) ?_
  show WX11_cellOf G l σ (σ, I, J, D, R) (some (vL r9)) (σ, I, J, D, R) 0 _ []
  refine r_iload_n (pc := 0) dX11_cellOf_0 rfl 0 rfl ?_
  rcases itc h with ⟨c1, h⟩ | ⟨c1, h⟩
  · refine r_tsIn (x := x0) (pc := 1) (tgt := 48) dX11_cellOf_1 (by rw [c1]; decide) (by rw [c1]; decide) (by rw [c1]; rfl) rfl ?_
    refine r_lload_n (pc := 48) dX11_cellOf_48 rfl 1 rfl ?_
    refine r_lconst (pc := 49) dX11_cellOf_49 kc_lconst_1 ?_
    refine r_land (pc := 50) dX11_cellOf_50 ?_
    subst h
    exact r_lret dX11_cellOf_51
  · rcases itc h with ⟨c2, h⟩ | ⟨c2, h⟩
    · refine r_tsIn (x := x0) (pc := 1) (tgt := 52) dX11_cellOf_1 (by rw [c2]; decide) (by rw [c2]; decide) (by rw [c2]; rfl) rfl ?_
      refine r_lload_n (pc := 52) dX11_cellOf_52 rfl 1 rfl ?_
      refine r_l2i (pc := 53) dX11_cellOf_53 ?_
      refine r_i2b (pc := 54) dX11_cellOf_54 ?_
      refine r_i2l (pc := 55) dX11_cellOf_55 ?_
      subst h
      exact r_lret dX11_cellOf_56
    · rcases itc h with ⟨c3, h⟩ | ⟨c3, h⟩
      · refine r_tsIn (x := x0) (pc := 1) (tgt := 57) dX11_cellOf_1 (by rw [c3]; decide) (by rw [c3]; decide) (by rw [c3]; rfl) rfl ?_
        refine r_lload_n (pc := 57) dX11_cellOf_57 rfl 1 rfl ?_
        refine r_ldc2 (pc := 58) dX11_cellOf_58 clX11_524 ?_
        refine r_land (pc := 61) dX11_cellOf_61 ?_
        subst h
        exact r_lret dX11_cellOf_62
      · rcases itc h with ⟨c4, h⟩ | ⟨c4, h⟩
        · refine r_tsIn (x := x0) (pc := 1) (tgt := 63) dX11_cellOf_1 (by rw [c4]; decide) (by rw [c4]; decide) (by rw [c4]; rfl) rfl ?_
          refine r_lload_n (pc := 63) dX11_cellOf_63 rfl 1 rfl ?_
          refine r_l2i (pc := 64) dX11_cellOf_64 ?_
          refine r_i2s (pc := 65) dX11_cellOf_65 ?_
          refine r_i2l (pc := 66) dX11_cellOf_66 ?_
          subst h
          exact r_lret dX11_cellOf_67
        · rcases itc h with ⟨c5, h⟩ | ⟨c5, h⟩
          · refine r_tsIn (x := x0) (pc := 1) (tgt := 68) dX11_cellOf_1 (by rw [c5]; decide) (by rw [c5]; decide) (by rw [c5]; rfl) rfl ?_
            refine r_lload_n (pc := 68) dX11_cellOf_68 rfl 1 rfl ?_
            refine r_l2i (pc := 69) dX11_cellOf_69 ?_
            refine r_i2l (pc := 70) dX11_cellOf_70 ?_
            subst h
            exact r_lret dX11_cellOf_71
          · rcases itc h with ⟨c6, h⟩ | ⟨c6, h⟩
            · refine r_tsIn (x := x0) (pc := 1) (tgt := 109) dX11_cellOf_1 (by rw [c6]; decide) (by rw [c6]; decide) (by rw [c6]; rfl) rfl ?_
              refine r_lload_n (pc := 109) dX11_cellOf_109 rfl 1 rfl ?_
              subst h
              exact r_lret dX11_cellOf_110
            · rcases itc h with ⟨c7, h⟩ | ⟨c7, h⟩
              · refine r_tsIn (x := x0) (pc := 1) (tgt := 72) dX11_cellOf_1 (by rw [c7]; decide) (by rw [c7]; decide) (by rw [c7]; rfl) rfl ?_
                refine r_lload_n (pc := 72) dX11_cellOf_72 rfl 1 rfl ?_
                refine r_ldc2 (pc := 73) dX11_cellOf_73 clX11_526 ?_
                refine r_land (pc := 76) dX11_cellOf_76 ?_
                refine r_ldc2 (pc := 77) dX11_cellOf_77 clX11_528 ?_
                refine r_lcmp (pc := 80) dX11_cellOf_80 ?_
                refine r_if_le (pc := 81) (tgt := 90) dX11_cellOf_81 rfl (fun c => ?_) (fun c => ?_)
                · have h := it h (lgc_le.mp c)
                  refine r_lload_n (pc := 90) dX11_cellOf_90 rfl 1 rfl ?_
                  refine r_l2i (pc := 91) dX11_cellOf_91 ?_
                  refine r_i2l (pc := 92) dX11_cellOf_92 ?_
                  subst h
                  exact r_lret dX11_cellOf_93
                · have h := ie h (fun q => c (lgc_le.mpr q))
                  refine r_ldc2 (pc := 84) dX11_cellOf_84 clX11_530 ?_
                  refine r_goto (pc := 87) (tgt := 93) dX11_cellOf_87 rfl ?_
                  subst h
                  exact r_lret dX11_cellOf_93
              · rcases itc h with ⟨c8, h⟩ | ⟨c8, h⟩
                · refine r_tsIn (x := x0) (pc := 1) (tgt := 94) dX11_cellOf_1 (by rw [c8]; decide) (by rw [c8]; decide) (by rw [c8]; rfl) rfl ?_
                  refine r_lload_n (pc := 94) dX11_cellOf_94 rfl 1 rfl ?_
                  refine r_callS1 (pc := 95) (av := [vL x1]) (S := []) dX11_cellOf_95 (kX11_isNumber rfl) mkX11_349 mwX11_isNumber rfl ⟨Nat.le_of_ble_eq_true rfl, Nat.le_of_ble_eq_true rfl⟩ (Nat.le_of_ble_eq_true rfl) ⟨Nat.le_refl _, Nat.le_refl _⟩ (fun b => b) ?_
                  refine r_if_eq (pc := 98) (tgt := 105) dX11_cellOf_98 rfl (fun c => ?_) (fun c => ?_)
                  · have h := it h c
                    refine r_ldc2 (pc := 105) dX11_cellOf_105 clX11_420 ?_
                    subst h
                    exact r_lret dX11_cellOf_108
                  · have h := ie h c
                    refine r_lload_n (pc := 101) dX11_cellOf_101 rfl 1 rfl ?_
                    refine r_goto (pc := 102) (tgt := 108) dX11_cellOf_102 rfl ?_
                    subst h
                    exact r_lret dX11_cellOf_108
                · refine r_tsOut (x := x0) (pc := 1) (tgt := 109) dX11_cellOf_1 (by have ec1 := i32n c1 (k := 0) rfl; have ec2 := i32n c2 (k := 1) rfl; have ec3 := i32n c3 (k := 2) rfl; have ec4 := i32n c4 (k := 3) rfl; have ec5 := i32n c5 (k := 4) rfl; have ec6 := i32n c6 (k := 5) rfl; have ec7 := i32n c7 (k := 6) rfl; have ec8 := i32n c8 (k := 7) rfl; omega) rfl ?_
                  refine r_lload_n (pc := 109) dX11_cellOf_109 rfl 1 rfl ?_
                  subst h
                  exact r_lret dX11_cellOf_110
abbrev WX1_isWhole (G : Gx) (l : Launch) (σ0 : Shp) (X1 : Stt) (rv : Option SV) : Stt → Nat → List (Nat × SV) → List SV → Prop := Wm G l yX1_isWhole cX1_isWhole 7 (some .boolean) (fun _ => True) (rmx 3 71 σ0 X1.1) σ0 (Qmx G σ0 X1 rv)
def fX1_isWhole_l76  (σ : Shp) (I : Nat → Nat → Int32) (R : Nat → Nat → Option Nat) (t : Nat) : Nat → (Int32) → (Int32) → (Int32) → (Int32) → Option ((Int32))
  | 0, _, _, _, _ => none
  | n + 1, x1, x2, x3, x4 =>
    if x3 ≤ x4 then
      if kdx σ t = 2 then
      (fX1_numberAt σ I R t x1 (60 : Int32) (4 : Int32)).bind fun r15 =>
      ((R t 0) : Option Nat).bind fun a17 =>
      (fX1_sumOf σ I (some a17) (x1 * (64 : Int32))).bind fun r18 =>
      if (Int64.toInt32 r15) = r18 then
        some (1 : Int32)
      else
        some (0 : Int32)
      else none
    else
      if kdx σ t = 2 then
      (fX1_numberAt σ I R t x1 ((12 : Int32) + ((8 : Int32) * x4)) (8 : Int32)).bind fun r21 =>
      if r21 = (fX11_cellOf x2 r21) then
        let v23 := x4 + (1 : Int32)
        fX1_isWhole_l76 σ I R t n x1 x2 x3 v23
      else
        some (0 : Int32)
      else none
theorem wX1_isWhole_l76 {G : Gx} {l : Launch} {σ : Shp} {I : Nat → Nat → Int32} {J : Nat → Nat → Int64} {D : Nat → Nat → UInt64} {R : Nat → Nat → Option Nat} {t : Nat} {r9 : Int32} : ∀ (n : Nat) (x1 : Int32) (x2 : Int32) (x3 : Int32) (x4 : Int32), fX1_isWhole_l76 σ I R t n x1 x2 x3 x4 = some r9 → WX1_isWhole G l σ (σ, I, J, D, R) (some (vI r9)) (σ, I, J, D, R) 76 [(0, vR (some t)), (1, vI x1), (2, vI x2), (3, vI x3), (4, vI x4)] [] := by
  intro n
  induction n with
  | zero =>
    intro x1 x2 x3 x4 h
    have h : none = some _ := h
    cases h
  | succ n ih =>
    intro x1 x2 x3 x4 h
    rw [fX1_isWhole_l76] at h
    refine r_iload (pc := 76) dX1_isWhole_76 4 rfl ?_
    refine r_iload_n (pc := 78) dX1_isWhole_78 rfl 3 rfl ?_
    refine r_icmp_ge (pc := 79) (tgt := 119) dX1_isWhole_79 rfl (fun c => ?_) (fun c => ?_)
    · have h := it h c
      refine r_aload_n (pc := 119) dX1_isWhole_119 rfl 0 rfl ?_
      refine r_iload_n (pc := 120) dX1_isWhole_120 rfl 1 rfl ?_
      refine r_bipush (pc := 121) dX1_isWhole_121 kc_bipush_60 ?_
      refine r_iconst (pc := 123) dX1_isWhole_123 kc_iconst_4 ?_
      obtain ⟨g14, h⟩ := gd h
      obtain ⟨r15, hc16, h⟩ := ob h
      refine r_callV1 (pc := 124) (av := [vI x1, vI (60 : Int32), vI (4 : Int32)]) (S := []) dX1_isWhole_124 (kX1_numberAt hc16) g14 rfl mkX1_64 mwX1_numberAt rfl ⟨Nat.le_of_ble_eq_true rfl, Nat.le_of_ble_eq_true rfl⟩ (Nat.le_of_ble_eq_true rfl) ⟨Nat.le_refl _, Nat.le_refl _⟩ (fun b => b) ?_
      refine r_l2i (pc := 127) dX1_isWhole_127 ?_
      refine r_aload_n (pc := 128) dX1_isWhole_128 rfl 0 rfl ?_
      obtain ⟨a17, ha17, h⟩ := ob h
      refine r_getS (pc := 129) dX1_isWhole_129 fgX1_11 rfl g14 ha17 ?_
      refine r_iload_n (pc := 132) dX1_isWhole_132 rfl 1 rfl ?_
      refine r_bipush (pc := 133) dX1_isWhole_133 kc_bipush_64 ?_
      refine r_imul (pc := 135) dX1_isWhole_135 ?_
      obtain ⟨r18, hc19, h⟩ := ob h
      refine r_callS1 (pc := 136) (av := [vR (some a17), vI (x1 * (64 : Int32))]) (S := [vI (Int64.toInt32 r15)]) dX1_isWhole_136 (kX1_sumOf hc19) mkX1_50 mwX1_sumOf rfl ⟨Nat.le_of_ble_eq_true rfl, Nat.le_of_ble_eq_true rfl⟩ (Nat.le_of_ble_eq_true rfl) ⟨Nat.le_refl _, Nat.le_refl _⟩ (fun b => b) ?_
      refine r_icmp_ne (pc := 139) (tgt := 146) dX1_isWhole_139 rfl (fun c => ?_) (fun c => ?_)
      · have h := ie h c
        refine r_iconst (pc := 146) dX1_isWhole_146 kc_iconst_0 ?_
        cases h
        exact r_zret dX1_isWhole_147 (Or.inl rfl)
      · have h := it h c
        refine r_iconst (pc := 142) dX1_isWhole_142 kc_iconst_1 ?_
        refine r_goto (pc := 143) (tgt := 147) dX1_isWhole_143 rfl ?_
        cases h
        exact r_zret dX1_isWhole_147 (Or.inr rfl)
    · have h := ie h c
      refine r_aload_n (pc := 82) dX1_isWhole_82 rfl 0 rfl ?_
      refine r_iload_n (pc := 83) dX1_isWhole_83 rfl 1 rfl ?_
      refine r_bipush (pc := 84) dX1_isWhole_84 kc_bipush_12 ?_
      refine r_bipush (pc := 86) dX1_isWhole_86 kc_bipush_8 ?_
      refine r_iload (pc := 88) dX1_isWhole_88 4 rfl ?_
      refine r_imul (pc := 90) dX1_isWhole_90 ?_
      refine r_iadd (pc := 91) dX1_isWhole_91 ?_
      refine r_bipush (pc := 92) dX1_isWhole_92 kc_bipush_8 ?_
      obtain ⟨g20, h⟩ := gd h
      obtain ⟨r21, hc22, h⟩ := ob h
      refine r_callV1 (pc := 94) (av := [vI x1, vI ((12 : Int32) + ((8 : Int32) * x4)), vI (8 : Int32)]) (S := []) dX1_isWhole_94 (kX1_numberAt hc22) g20 rfl mkX1_64 mwX1_numberAt rfl ⟨Nat.le_of_ble_eq_true rfl, Nat.le_of_ble_eq_true rfl⟩ (Nat.le_of_ble_eq_true rfl) ⟨Nat.le_refl _, Nat.le_refl _⟩ (fun b => b) ?_
      refine r_lstore (pc := 97) (L' := [(5, vL r21), (0, vR (some t)), (1, vI x1), (2, vI x2), (3, vI x3), (4, vI x4)]) dX1_isWhole_97 (by decide) rfl ?_
      refine r_lload (pc := 99) dX1_isWhole_99 0 rfl ?_
      refine r_iload_n (pc := 101) dX1_isWhole_101 rfl 3 rfl ?_
      refine r_lload (pc := 102) dX1_isWhole_102 0 rfl ?_
      refine r_callSN1 (pc := 104) (av := [vI x2, vL r21]) (S := [vL r21]) dX1_isWhole_104 (kX11_cellOf rfl) nkX1_80 mwX11_cellOf rfl ⟨Nat.le_of_ble_eq_true rfl, Nat.le_of_ble_eq_true rfl⟩ (Nat.le_of_ble_eq_true rfl) ⟨Nat.le_refl _, Nat.le_refl _⟩ (fun b => b) ?_
      refine r_lcmp (pc := 107) dX1_isWhole_107 ?_
      refine r_if_eq (pc := 108) (tgt := 113) dX1_isWhole_108 rfl (fun c => ?_) (fun c => ?_)
      · have h := it h (lgc_eq.mp c)
        refine r_iinc (pc := 113) (v := (x4 + (1 : Int32))) (L' := [(4, vI (x4 + (1 : Int32))), (5, vL r21), (0, vR (some t)), (1, vI x1), (2, vI x2), (3, vI x3)]) dX1_isWhole_113 5 rfl (kc_inc_1 _) (by decide) rfl ?_
        refine r_goto (pc := 116) (tgt := 76) dX1_isWhole_116 rfl ?_
        refine r_sub [2, 3, 4, 5, 0] rfl ?_
        exact ih _ _ _ _ h
      · have h := ie h (fun q => c (lgc_eq.mpr q))
        refine r_iconst (pc := 111) dX1_isWhole_111 kc_iconst_0 ?_
        cases h
        exact r_zret dX1_isWhole_112 (Or.inl rfl)
def fX1_isWhole (σ : Shp) (I : Nat → Nat → Int32) (R : Nat → Nat → Option Nat) (t : Nat) (x1 : Int32) : Option ((Int32)) :=
  if kdx σ t = 2 then
  (fX1_numberAt σ I R t x1 (4 : Int32) (1 : Int32)).bind fun r2 =>
  let v4 := (Int64.toInt32 r2)
  (fX1_numberAt σ I R t x1 (5 : Int32) (1 : Int32)).bind fun r5 =>
  let v7 := (Int64.toInt32 r5)
  (fX1_numberOf σ I R t x1).bind fun r8 =>
  if r8 < (1 : Int32) then
    some (0 : Int32)
  else
    if (fX1_writes v4) = 0 then
      some (0 : Int32)
    else
      if v7 ≤ (6 : Int32) then
        (fX1_allZero σ I R t x1 (6 : Int32) (12 : Int32)).bind fun r10 =>
        if r10 = 0 then
          some (0 : Int32)
        else
          (fX1_allZero σ I R t x1 ((12 : Int32) + ((8 : Int32) * v7)) (60 : Int32)).bind fun r12 =>
          if r12 = 0 then
            some (0 : Int32)
          else
            fX1_isWhole_l76 σ I R t FUx x1 v4 v7 (0 : Int32)
      else
        some (0 : Int32)
  else none
theorem kX1_isWhole {G : Gx} {l : Launch} {σ : Shp} {I : Nat → Nat → Int32} {J : Nat → Nat → Int64} {D : Nat → Nat → UInt64} {R : Nat → Nat → Option Nat} {t : Nat} {x1 : Int32} {r9 : Int32} (h : fX1_isWhole σ I R t x1 = some r9) : Con G l yX1_isWhole cX1_isWhole 7 (some .boolean) 3 71 [vR (some t), vI x1] (σ, I, J, D, R) (σ, I, J, D, R) (some (vI r9)) := by
  unfold fX1_isWhole at h
  refine Con.mk (by decide +kernel) rfl (Nat.le_of_ble_eq_true rfl) ?_
  show WX1_isWhole G l σ (σ, I, J, D, R) (some (vI r9)) (σ, I, J, D, R) 0 _ []
  refine r_aload_n (pc := 0) dX1_isWhole_0 rfl 0 rfl ?_
  refine r_iload_n (pc := 1) dX1_isWhole_1 rfl 1 rfl ?_
  refine r_iconst (pc := 2) dX1_isWhole_2 kc_iconst_4 ?_
  refine r_iconst (pc := 3) dX1_isWhole_3 kc_iconst_1 ?_
  obtain ⟨g1, h⟩ := gd h
  obtain ⟨r2, hc3, h⟩ := ob h
  refine r_callV1 (pc := 4) (av := [vI x1, vI (4 : Int32), vI (1 : Int32)]) (S := []) dX1_isWhole_4 (kX1_numberAt hc3) g1 rfl mkX1_64 mwX1_numberAt rfl ⟨Nat.le_of_ble_eq_true rfl, Nat.le_of_ble_eq_true rfl⟩ (Nat.le_of_ble_eq_true rfl) ⟨Nat.le_refl _, Nat.le_refl _⟩ (fun b => b) ?_
  refine r_l2i (pc := 7) dX1_isWhole_7 ?_
  refine r_istore_n (pc := 8) (L' := [(2, vI (Int64.toInt32 r2)), (0, vR (some t)), (1, vI x1)]) dX1_isWhole_8 rfl (by decide) rfl ?_
  refine r_aload_n (pc := 9) dX1_isWhole_9 rfl 1 rfl ?_
  refine r_iload_n (pc := 10) dX1_isWhole_10 rfl 2 rfl ?_
  refine r_iconst (pc := 11) dX1_isWhole_11 kc_iconst_5 ?_
  refine r_iconst (pc := 12) dX1_isWhole_12 kc_iconst_1 ?_
  obtain ⟨r5, hc6, h⟩ := ob h
  refine r_callV1 (pc := 13) (av := [vI x1, vI (5 : Int32), vI (1 : Int32)]) (S := []) dX1_isWhole_13 (kX1_numberAt hc6) g1 rfl mkX1_64 mwX1_numberAt rfl ⟨Nat.le_of_ble_eq_true rfl, Nat.le_of_ble_eq_true rfl⟩ (Nat.le_of_ble_eq_true rfl) ⟨Nat.le_refl _, Nat.le_refl _⟩ (fun b => b) ?_
  refine r_l2i (pc := 16) dX1_isWhole_16 ?_
  refine r_istore_n (pc := 17) (L' := [(3, vI (Int64.toInt32 r5)), (2, vI (Int64.toInt32 r2)), (0, vR (some t)), (1, vI x1)]) dX1_isWhole_17 rfl (by decide) rfl ?_
  refine r_aload_n (pc := 18) dX1_isWhole_18 rfl 2 rfl ?_
  refine r_iload_n (pc := 19) dX1_isWhole_19 rfl 3 rfl ?_
  obtain ⟨r8, hc9, h⟩ := ob h
  refine r_callV1 (pc := 20) (av := [vI x1]) (S := []) dX1_isWhole_20 (kX1_numberOf hc9) g1 rfl mkX1_68 mwX1_numberOf rfl ⟨Nat.le_of_ble_eq_true rfl, Nat.le_of_ble_eq_true rfl⟩ (Nat.le_of_ble_eq_true rfl) ⟨Nat.le_refl _, Nat.le_refl _⟩ (fun b => b) ?_
  refine r_iconst (pc := 23) dX1_isWhole_23 kc_iconst_1 ?_
  refine r_icmp_lt (pc := 24) (tgt := 40) dX1_isWhole_24 rfl (fun c => ?_) (fun c => ?_)
  · have h := it h c
    refine r_iconst (pc := 40) dX1_isWhole_40 kc_iconst_0 ?_
    cases h
    exact r_zret dX1_isWhole_41 (Or.inl rfl)
  · have h := ie h c
    refine r_iload_n (pc := 27) dX1_isWhole_27 rfl 1 rfl ?_
    refine r_callS1 (pc := 28) (av := [vI (Int64.toInt32 r2)]) (S := []) dX1_isWhole_28 (kX1_writes rfl) mkX1_72 mwX1_writes rfl ⟨Nat.le_of_ble_eq_true rfl, Nat.le_of_ble_eq_true rfl⟩ (Nat.le_of_ble_eq_true rfl) ⟨Nat.le_refl _, Nat.le_refl _⟩ (fun b => b) ?_
    refine r_if_eq (pc := 31) (tgt := 40) dX1_isWhole_31 rfl (fun c => ?_) (fun c => ?_)
    · have h := it h c
      refine r_iconst (pc := 40) dX1_isWhole_40 kc_iconst_0 ?_
      cases h
      exact r_zret dX1_isWhole_41 (Or.inl rfl)
    · have h := ie h c
      refine r_iload_n (pc := 34) dX1_isWhole_34 rfl 0 rfl ?_
      refine r_bipush (pc := 35) dX1_isWhole_35 kc_bipush_6 ?_
      refine r_icmp_le (pc := 37) (tgt := 42) dX1_isWhole_37 rfl (fun c => ?_) (fun c => ?_)
      · have h := it h c
        refine r_aload_n (pc := 42) dX1_isWhole_42 rfl 2 rfl ?_
        refine r_iload_n (pc := 43) dX1_isWhole_43 rfl 3 rfl ?_
        refine r_bipush (pc := 44) dX1_isWhole_44 kc_bipush_6 ?_
        refine r_bipush (pc := 46) dX1_isWhole_46 kc_bipush_12 ?_
        obtain ⟨r10, hc11, h⟩ := ob h
        refine r_callV1 (pc := 48) (av := [vI x1, vI (6 : Int32), vI (12 : Int32)]) (S := []) dX1_isWhole_48 (kX1_allZero hc11) g1 rfl mkX1_76 mwX1_allZero rfl ⟨Nat.le_of_ble_eq_true rfl, Nat.le_of_ble_eq_true rfl⟩ (Nat.le_of_ble_eq_true rfl) ⟨Nat.le_refl _, Nat.le_refl _⟩ (fun b => b) ?_
        refine r_if_eq (pc := 51) (tgt := 71) dX1_isWhole_51 rfl (fun c => ?_) (fun c => ?_)
        · have h := it h c
          refine r_iconst (pc := 71) dX1_isWhole_71 kc_iconst_0 ?_
          cases h
          exact r_zret dX1_isWhole_72 (Or.inl rfl)
        · have h := ie h c
          refine r_aload_n (pc := 54) dX1_isWhole_54 rfl 2 rfl ?_
          refine r_iload_n (pc := 55) dX1_isWhole_55 rfl 3 rfl ?_
          refine r_bipush (pc := 56) dX1_isWhole_56 kc_bipush_12 ?_
          refine r_bipush (pc := 58) dX1_isWhole_58 kc_bipush_8 ?_
          refine r_iload_n (pc := 60) dX1_isWhole_60 rfl 0 rfl ?_
          refine r_imul (pc := 61) dX1_isWhole_61 ?_
          refine r_iadd (pc := 62) dX1_isWhole_62 ?_
          refine r_bipush (pc := 63) dX1_isWhole_63 kc_bipush_60 ?_
          obtain ⟨r12, hc13, h⟩ := ob h
          refine r_callV1 (pc := 65) (av := [vI x1, vI ((12 : Int32) + ((8 : Int32) * (Int64.toInt32 r5))), vI (60 : Int32)]) (S := []) dX1_isWhole_65 (kX1_allZero hc13) g1 rfl mkX1_76 mwX1_allZero rfl ⟨Nat.le_of_ble_eq_true rfl, Nat.le_of_ble_eq_true rfl⟩ (Nat.le_of_ble_eq_true rfl) ⟨Nat.le_refl _, Nat.le_refl _⟩ (fun b => b) ?_
          refine r_ifne (pc := 68) (tgt := 73) dX1_isWhole_68 rfl (fun c => ?_) (fun c => ?_)
          · have h := ie h c
            refine r_iconst (pc := 73) dX1_isWhole_73 kc_iconst_0 ?_
            refine r_istore (pc := 74) (L' := [(4, vI (0 : Int32)), (3, vI (Int64.toInt32 r5)), (2, vI (Int64.toInt32 r2)), (0, vR (some t)), (1, vI x1)]) dX1_isWhole_74 (by decide) rfl ?_
            refine r_sub [3, 4, 2, 1, 0] rfl ?_
            exact wX1_isWhole_l76 _ _ _ _ _ h
          · have h := it h c
            refine r_iconst (pc := 71) dX1_isWhole_71 kc_iconst_0 ?_
            cases h
            exact r_zret dX1_isWhole_72 (Or.inl rfl)
      · have h := ie h c
        refine r_iconst (pc := 40) dX1_isWhole_40 kc_iconst_0 ?_
        cases h
        exact r_zret dX1_isWhole_41 (Or.inl rfl)
abbrev WX1_leastWith (G : Gx) (l : Launch) (σ0 : Shp) (X1 : Stt) (rv : Option SV) : Stt → Nat → List (Nat × SV) → List SV → Prop := Wm G l yX1_leastWith cX1_leastWith 3 (some .int) (fun _ => True) (rmx 4 97 σ0 X1.1) σ0 (Qmx G σ0 X1 rv)
def fX1_leastWith_l2  (σ : Shp) (I : Nat → Nat → Int32) (R : Nat → Nat → Option Nat) (t : Nat) : Nat → (Int32) → (Int32) → Option ((Int32))
  | 0, _, _ => none
  | n + 1, x1, x2 =>
    if x1 ≤ x2 then
      some x1
    else
      if kdx σ t = 2 then
      (fX1_numberOf σ I R t x2).bind fun r2 =>
      (fX1_numberOf σ I R t x1).bind fun r4 =>
      if r2 = r4 then
        (fX1_isWhole σ I R t x2).bind fun r7 =>
        if r7 = 0 then
          let v9 := x2 + (1 : Int32)
          fX1_leastWith_l2 σ I R t n x1 v9
        else
          some x2
      else
        let v6 := x2 + (1 : Int32)
        fX1_leastWith_l2 σ I R t n x1 v6
      else none
theorem wX1_leastWith_l2 {G : Gx} {l : Launch} {σ : Shp} {I : Nat → Nat → Int32} {J : Nat → Nat → Int64} {D : Nat → Nat → UInt64} {R : Nat → Nat → Option Nat} {t : Nat} {r9 : Int32} : ∀ (n : Nat) (x1 : Int32) (x2 : Int32), fX1_leastWith_l2 σ I R t n x1 x2 = some r9 → WX1_leastWith G l σ (σ, I, J, D, R) (some (vI r9)) (σ, I, J, D, R) 2 [(0, vR (some t)), (1, vI x1), (2, vI x2)] [] := by
  intro n
  induction n with
  | zero =>
    intro x1 x2 h
    have h : none = some _ := h
    cases h
  | succ n ih =>
    intro x1 x2 h
    rw [fX1_leastWith_l2] at h
    refine r_iload_n (pc := 2) dX1_leastWith_2 rfl 2 rfl ?_
    refine r_iload_n (pc := 3) dX1_leastWith_3 rfl 1 rfl ?_
    refine r_icmp_ge (pc := 4) (tgt := 36) dX1_leastWith_4 rfl (fun c => ?_) (fun c => ?_)
    · have h := it h c
      refine r_iload_n (pc := 36) dX1_leastWith_36 rfl 1 rfl ?_
      cases h
      exact r_iret dX1_leastWith_37
    · have h := ie h c
      refine r_aload_n (pc := 7) dX1_leastWith_7 rfl 0 rfl ?_
      refine r_iload_n (pc := 8) dX1_leastWith_8 rfl 2 rfl ?_
      obtain ⟨g1, h⟩ := gd h
      obtain ⟨r2, hc3, h⟩ := ob h
      refine r_callV1 (pc := 9) (av := [vI x2]) (S := []) dX1_leastWith_9 (kX1_numberOf hc3) g1 rfl mkX1_68 mwX1_numberOf rfl ⟨Nat.le_of_ble_eq_true rfl, Nat.le_of_ble_eq_true rfl⟩ (Nat.le_of_ble_eq_true rfl) ⟨Nat.le_refl _, Nat.le_refl _⟩ (fun b => b) ?_
      refine r_aload_n (pc := 12) dX1_leastWith_12 rfl 0 rfl ?_
      refine r_iload_n (pc := 13) dX1_leastWith_13 rfl 1 rfl ?_
      obtain ⟨r4, hc5, h⟩ := ob h
      refine r_callV1 (pc := 14) (av := [vI x1]) (S := [vI r2]) dX1_leastWith_14 (kX1_numberOf hc5) g1 rfl mkX1_68 mwX1_numberOf rfl ⟨Nat.le_of_ble_eq_true rfl, Nat.le_of_ble_eq_true rfl⟩ (Nat.le_of_ble_eq_true rfl) ⟨Nat.le_refl _, Nat.le_refl _⟩ (fun b => b) ?_
      refine r_icmp_ne (pc := 17) (tgt := 30) dX1_leastWith_17 rfl (fun c => ?_) (fun c => ?_)
      · have h := ie h c
        refine r_iinc (pc := 30) (v := (x2 + (1 : Int32))) (L' := [(2, vI (x2 + (1 : Int32))), (0, vR (some t)), (1, vI x1)]) dX1_leastWith_30 2 rfl (kc_inc_1 _) (by decide) rfl ?_
        refine r_goto (pc := 33) (tgt := 2) dX1_leastWith_33 rfl ?_
        refine r_sub [1, 2, 0] rfl ?_
        exact ih _ _ h
      · have h := it h c
        refine r_aload_n (pc := 20) dX1_leastWith_20 rfl 0 rfl ?_
        refine r_iload_n (pc := 21) dX1_leastWith_21 rfl 2 rfl ?_
        obtain ⟨r7, hc8, h⟩ := ob h
        refine r_callV1 (pc := 22) (av := [vI x2]) (S := []) dX1_leastWith_22 (kX1_isWhole hc8) g1 rfl mkX1_84 mwX1_isWhole rfl ⟨Nat.le_of_ble_eq_true rfl, Nat.le_of_ble_eq_true rfl⟩ (Nat.le_of_ble_eq_true rfl) ⟨Nat.le_refl _, Nat.le_refl _⟩ (fun b => b) ?_
        refine r_if_eq (pc := 25) (tgt := 30) dX1_leastWith_25 rfl (fun c => ?_) (fun c => ?_)
        · have h := it h c
          refine r_iinc (pc := 30) (v := (x2 + (1 : Int32))) (L' := [(2, vI (x2 + (1 : Int32))), (0, vR (some t)), (1, vI x1)]) dX1_leastWith_30 2 rfl (kc_inc_1 _) (by decide) rfl ?_
          refine r_goto (pc := 33) (tgt := 2) dX1_leastWith_33 rfl ?_
          refine r_sub [1, 2, 0] rfl ?_
          exact ih _ _ h
        · have h := ie h c
          refine r_iload_n (pc := 28) dX1_leastWith_28 rfl 2 rfl ?_
          cases h
          exact r_iret dX1_leastWith_29
def fX1_leastWith (σ : Shp) (I : Nat → Nat → Int32) (R : Nat → Nat → Option Nat) (t : Nat) (x1 : Int32) : Option ((Int32)) :=
  fX1_leastWith_l2 σ I R t FUx x1 (0 : Int32)
theorem kX1_leastWith {G : Gx} {l : Launch} {σ : Shp} {I : Nat → Nat → Int32} {J : Nat → Nat → Int64} {D : Nat → Nat → UInt64} {R : Nat → Nat → Option Nat} {t : Nat} {x1 : Int32} {r9 : Int32} (h : fX1_leastWith σ I R t x1 = some r9) : Con G l yX1_leastWith cX1_leastWith 3 (some .int) 4 97 [vR (some t), vI x1] (σ, I, J, D, R) (σ, I, J, D, R) (some (vI r9)) := by
  unfold fX1_leastWith at h
  refine Con.mk (by decide +kernel) rfl (Nat.le_of_ble_eq_true rfl) ?_
  show WX1_leastWith G l σ (σ, I, J, D, R) (some (vI r9)) (σ, I, J, D, R) 0 _ []
  refine r_iconst (pc := 0) dX1_leastWith_0 kc_iconst_0 ?_
  refine r_istore_n (pc := 1) (L' := [(2, vI (0 : Int32)), (0, vR (some t)), (1, vI x1)]) dX1_leastWith_1 rfl (by decide) rfl ?_
  refine r_sub [1, 2, 0] rfl ?_
  exact wX1_leastWith_l2 _ _ _ h
abbrev WX1_gatherRead (G : Gx) (l : Launch) (σ0 : Shp) (X1 : Stt) (rv : Option SV) : Stt → Nat → List (Nat × SV) → List SV → Prop := Wm G l yX1_gatherRead cX1_gatherRead 4 (some .int) (fun _ => True) (rmx 5 119 σ0 X1.1) σ0 (Qmx G σ0 X1 rv)
def fX1_gatherRead_l29 (q4 : (Nat → Nat → Int32) → (Int32) → (Int32) → (Option ((Nat → Nat → Int32) × (Int32)))) (σ : Shp) (R : Nat → Nat → Option Nat) (t : Nat) : Nat → (Nat → Nat → Int32) → (Int32) → (Int32) → (Int32) → Option ((Nat → Nat → Int32) × (Int32))
  | 0, _, _, _, _ => none
  | n + 1, I, x1, x2, x3 =>
    if x3 ≤ 0 then
      if kdx σ t = 2 then
      ((R t 2) : Option Nat).bind fun a9 =>
      if kdx σ a9 = 20 then
      if ¬ (x3 < 0 ∨ lnx σ a9 ≤ Int32.toNatClampNeg x3) then
      let I12 := u2 I a9 (Int32.toNatClampNeg x3) x2
      let v13 := x1 + (1 : Int32)
      let v14 := x2 + (1 : Int32)
      q4 I12 v13 v14
      else none
      else none
      else none
    else
      if kdx σ t = 2 then
      ((R t 2) : Option Nat).bind fun a16 =>
      if kdx σ a16 = 20 then
      if ¬ ((x3 - (1 : Int32)) < 0 ∨ lnx σ a16 ≤ Int32.toNatClampNeg (x3 - (1 : Int32))) then
      (fX1_numberOf σ I R t (I a16 (Int32.toNatClampNeg (x3 - (1 : Int32))))).bind fun r19 =>
      (fX1_numberOf σ I R t x2).bind fun r21 =>
      if r19 ≤ r21 then
        if ¬ (x3 < 0 ∨ lnx σ a16 ≤ Int32.toNatClampNeg x3) then
        let I24 := u2 I a16 (Int32.toNatClampNeg x3) x2
        let v25 := x1 + (1 : Int32)
        let v26 := x2 + (1 : Int32)
        q4 I24 v25 v26
        else none
      else
        if ¬ (x3 < 0 ∨ lnx σ a16 ≤ Int32.toNatClampNeg x3) then
        let I28 := u2 I a16 (Int32.toNatClampNeg x3) (I a16 (Int32.toNatClampNeg (x3 - (1 : Int32))))
        let v29 := x3 + (-1 : Int32)
        fX1_gatherRead_l29 q4 σ R t n I28 x1 x2 v29
        else none
      else none
      else none
      else none
theorem wX1_gatherRead_l29 {G : Gx} {l : Launch} {σ : Shp} {J : Nat → Nat → Int64} {D : Nat → Nat → UInt64} {R : Nat → Nat → Option Nat} {t : Nat} {I9 : Nat → Nat → Int32} {r9 : Int32} {q4 : (Nat → Nat → Int32) → (Int32) → (Int32) → (Option ((Nat → Nat → Int32) × (Int32)))} (hq4 : ∀ (I : Nat → Nat → Int32) (x1 : Int32) (x2 : Int32), q4 I x1 x2 = some (I9, r9) → WX1_gatherRead G l σ (σ, I9, J, D, R) (some (vI r9)) (σ, I, J, D, R) 4 [(0, vR (some t)), (1, vI x1), (2, vI x2)] []) : ∀ (n : Nat) (I : Nat → Nat → Int32) (x1 : Int32) (x2 : Int32) (x3 : Int32), fX1_gatherRead_l29 q4 σ R t n I x1 x2 x3 = some (I9, r9) → WX1_gatherRead G l σ (σ, I9, J, D, R) (some (vI r9)) (σ, I, J, D, R) 29 [(0, vR (some t)), (1, vI x1), (2, vI x2), (3, vI x3)] [] := by
  intro n
  induction n with
  | zero =>
    intro I x1 x2 x3 h
    have h : none = some _ := h
    cases h
  | succ n ih =>
    intro I x1 x2 x3 h
    rw [fX1_gatherRead_l29] at h
    refine r_iload_n (pc := 29) dX1_gatherRead_29 rfl 3 rfl ?_
    refine r_if_le (pc := 30) (tgt := 73) dX1_gatherRead_30 rfl (fun c => ?_) (fun c => ?_)
    · have h := it h c
      refine r_aload_n (pc := 73) dX1_gatherRead_73 rfl 0 rfl ?_
      obtain ⟨g8, h⟩ := gd h
      obtain ⟨a9, ha9, h⟩ := ob h
      refine r_getS (pc := 74) dX1_gatherRead_74 fgX1_18 rfl g8 ha9 ?_
      refine r_iload_n (pc := 77) dX1_gatherRead_77 rfl 3 rfl ?_
      refine r_iload_n (pc := 78) dX1_gatherRead_78 rfl 2 rfl ?_
      obtain ⟨g10, h⟩ := gd h
      obtain ⟨g11, h⟩ := gd h
      refine r_iastore (pc := 79) dX1_gatherRead_79 g10 g11 ?_
      refine r_iinc (pc := 80) (v := (x1 + (1 : Int32))) (L' := [(1, vI (x1 + (1 : Int32))), (0, vR (some t)), (2, vI x2), (3, vI x3)]) dX1_gatherRead_80 1 rfl (kc_inc_1 _) (by decide) rfl ?_
      refine r_iinc (pc := 83) (v := (x2 + (1 : Int32))) (L' := [(2, vI (x2 + (1 : Int32))), (1, vI (x1 + (1 : Int32))), (0, vR (some t)), (3, vI x3)]) dX1_gatherRead_83 2 rfl (kc_inc_1 _) (by decide) rfl ?_
      refine r_goto (pc := 86) (tgt := 4) dX1_gatherRead_86 rfl ?_
      refine r_sub [2, 1, 0] rfl ?_
      exact hq4 _ _ _ h
    · have h := ie h c
      refine r_aload_n (pc := 33) dX1_gatherRead_33 rfl 0 rfl ?_
      refine r_aload_n (pc := 34) dX1_gatherRead_34 rfl 0 rfl ?_
      obtain ⟨g15, h⟩ := gd h
      obtain ⟨a16, ha16, h⟩ := ob h
      refine r_getS (pc := 35) dX1_gatherRead_35 fgX1_18 rfl g15 ha16 ?_
      refine r_iload_n (pc := 38) dX1_gatherRead_38 rfl 3 rfl ?_
      refine r_iconst (pc := 39) dX1_gatherRead_39 kc_iconst_1 ?_
      refine r_isub (pc := 40) dX1_gatherRead_40 ?_
      obtain ⟨g17, h⟩ := gd h
      obtain ⟨g18, h⟩ := gd h
      refine r_iaload (pc := 41) dX1_gatherRead_41 g17 g18 ?_
      obtain ⟨r19, hc20, h⟩ := ob h
      refine r_callV1 (pc := 42) (av := [vI (I a16 (Int32.toNatClampNeg (x3 - (1 : Int32))))]) (S := []) dX1_gatherRead_42 (kX1_numberOf hc20) g15 rfl mkX1_68 mwX1_numberOf rfl ⟨Nat.le_of_ble_eq_true rfl, Nat.le_of_ble_eq_true rfl⟩ (Nat.le_of_ble_eq_true rfl) ⟨Nat.le_refl _, Nat.le_refl _⟩ (fun b => b) ?_
      refine r_aload_n (pc := 45) dX1_gatherRead_45 rfl 0 rfl ?_
      refine r_iload_n (pc := 46) dX1_gatherRead_46 rfl 2 rfl ?_
      obtain ⟨r21, hc22, h⟩ := ob h
      refine r_callV1 (pc := 47) (av := [vI x2]) (S := [vI r19]) dX1_gatherRead_47 (kX1_numberOf hc22) g15 rfl mkX1_68 mwX1_numberOf rfl ⟨Nat.le_of_ble_eq_true rfl, Nat.le_of_ble_eq_true rfl⟩ (Nat.le_of_ble_eq_true rfl) ⟨Nat.le_refl _, Nat.le_refl _⟩ (fun b => b) ?_
      refine r_icmp_le (pc := 50) (tgt := 73) dX1_gatherRead_50 rfl (fun c => ?_) (fun c => ?_)
      · have h := it h c
        refine r_aload_n (pc := 73) dX1_gatherRead_73 rfl 0 rfl ?_
        refine r_getS (pc := 74) dX1_gatherRead_74 fgX1_18 rfl g15 ha16 ?_
        refine r_iload_n (pc := 77) dX1_gatherRead_77 rfl 3 rfl ?_
        refine r_iload_n (pc := 78) dX1_gatherRead_78 rfl 2 rfl ?_
        obtain ⟨g23, h⟩ := gd h
        refine r_iastore (pc := 79) dX1_gatherRead_79 g17 g23 ?_
        refine r_iinc (pc := 80) (v := (x1 + (1 : Int32))) (L' := [(1, vI (x1 + (1 : Int32))), (0, vR (some t)), (2, vI x2), (3, vI x3)]) dX1_gatherRead_80 1 rfl (kc_inc_1 _) (by decide) rfl ?_
        refine r_iinc (pc := 83) (v := (x2 + (1 : Int32))) (L' := [(2, vI (x2 + (1 : Int32))), (1, vI (x1 + (1 : Int32))), (0, vR (some t)), (3, vI x3)]) dX1_gatherRead_83 2 rfl (kc_inc_1 _) (by decide) rfl ?_
        refine r_goto (pc := 86) (tgt := 4) dX1_gatherRead_86 rfl ?_
        refine r_sub [2, 1, 0] rfl ?_
        exact hq4 _ _ _ h
      · have h := ie h c
        refine r_aload_n (pc := 53) dX1_gatherRead_53 rfl 0 rfl ?_
        refine r_getS (pc := 54) dX1_gatherRead_54 fgX1_18 rfl g15 ha16 ?_
        refine r_iload_n (pc := 57) dX1_gatherRead_57 rfl 3 rfl ?_
        refine r_aload_n (pc := 58) dX1_gatherRead_58 rfl 0 rfl ?_
        refine r_getS (pc := 59) dX1_gatherRead_59 fgX1_18 rfl g15 ha16 ?_
        refine r_iload_n (pc := 62) dX1_gatherRead_62 rfl 3 rfl ?_
        refine r_iconst (pc := 63) dX1_gatherRead_63 kc_iconst_1 ?_
        refine r_isub (pc := 64) dX1_gatherRead_64 ?_
        refine r_iaload (pc := 65) dX1_gatherRead_65 g17 g18 ?_
        obtain ⟨g27, h⟩ := gd h
        refine r_iastore (pc := 66) dX1_gatherRead_66 g17 g27 ?_
        refine r_iinc (pc := 67) (v := (x3 + (-1 : Int32))) (L' := [(3, vI (x3 + (-1 : Int32))), (0, vR (some t)), (1, vI x1), (2, vI x2)]) dX1_gatherRead_67 3 rfl (kc_inc_m1 _) (by decide) rfl ?_
        refine r_goto (pc := 70) (tgt := 29) dX1_gatherRead_70 rfl ?_
        refine r_sub [1, 2, 3, 0] rfl ?_
        exact ih _ _ _ _ h
def fX1_gatherRead_l4  (σ : Shp) (R : Nat → Nat → Option Nat) (t : Nat) : Nat → (Nat → Nat → Int32) → (Int32) → (Int32) → Option ((Nat → Nat → Int32) × (Int32))
  | 0, _, _, _ => none
  | n + 1, I, x1, x2 =>
    if (20 : Int32) ≤ x2 then
      some (I, x1)
    else
      if kdx σ t = 2 then
      (fX1_isWhole σ I R t x2).bind fun r2 =>
      if r2 = 0 then
        let v4 := x2 + (1 : Int32)
        fX1_gatherRead_l4 σ R t n I x1 v4
      else
        (fX1_leastWith σ I R t x2).bind fun r5 =>
        if r5 = x2 then
          fX1_gatherRead_l29 (fX1_gatherRead_l4 σ R t n) σ R t FUx I x1 x2 x1
        else
          let v7 := x2 + (1 : Int32)
          fX1_gatherRead_l4 σ R t n I x1 v7
      else none
theorem wX1_gatherRead_l4 {G : Gx} {l : Launch} {σ : Shp} {J : Nat → Nat → Int64} {D : Nat → Nat → UInt64} {R : Nat → Nat → Option Nat} {t : Nat} {I9 : Nat → Nat → Int32} {r9 : Int32} : ∀ (n : Nat) (I : Nat → Nat → Int32) (x1 : Int32) (x2 : Int32), fX1_gatherRead_l4 σ R t n I x1 x2 = some (I9, r9) → WX1_gatherRead G l σ (σ, I9, J, D, R) (some (vI r9)) (σ, I, J, D, R) 4 [(0, vR (some t)), (1, vI x1), (2, vI x2)] [] := by
  intro n
  induction n with
  | zero =>
    intro I x1 x2 h
    have h : none = some _ := h
    cases h
  | succ n ih =>
    intro I x1 x2 h
    rw [fX1_gatherRead_l4] at h
    refine r_iload_n (pc := 4) dX1_gatherRead_4 rfl 2 rfl ?_
    refine r_bipush (pc := 5) dX1_gatherRead_5 kc_bipush_20 ?_
    refine r_icmp_ge (pc := 7) (tgt := 89) dX1_gatherRead_7 rfl (fun c => ?_) (fun c => ?_)
    · have h := it h c
      refine r_iload_n (pc := 89) dX1_gatherRead_89 rfl 1 rfl ?_
      cases h
      exact r_iret dX1_gatherRead_90
    · have h := ie h c
      refine r_aload_n (pc := 10) dX1_gatherRead_10 rfl 0 rfl ?_
      refine r_iload_n (pc := 11) dX1_gatherRead_11 rfl 2 rfl ?_
      obtain ⟨g1, h⟩ := gd h
      obtain ⟨r2, hc3, h⟩ := ob h
      refine r_callV1 (pc := 12) (av := [vI x2]) (S := []) dX1_gatherRead_12 (kX1_isWhole hc3) g1 rfl mkX1_84 mwX1_isWhole rfl ⟨Nat.le_of_ble_eq_true rfl, Nat.le_of_ble_eq_true rfl⟩ (Nat.le_of_ble_eq_true rfl) ⟨Nat.le_refl _, Nat.le_refl _⟩ (fun b => b) ?_
      refine r_if_eq (pc := 15) (tgt := 83) dX1_gatherRead_15 rfl (fun c => ?_) (fun c => ?_)
      · have h := it h c
        refine r_iinc (pc := 83) (v := (x2 + (1 : Int32))) (L' := [(2, vI (x2 + (1 : Int32))), (0, vR (some t)), (1, vI x1)]) dX1_gatherRead_83 2 rfl (kc_inc_1 _) (by decide) rfl ?_
        refine r_goto (pc := 86) (tgt := 4) dX1_gatherRead_86 rfl ?_
        refine r_sub [1, 2, 0] rfl ?_
        exact ih _ _ _ h
      · have h := ie h c
        refine r_aload_n (pc := 18) dX1_gatherRead_18 rfl 0 rfl ?_
        refine r_iload_n (pc := 19) dX1_gatherRead_19 rfl 2 rfl ?_
        obtain ⟨r5, hc6, h⟩ := ob h
        refine r_callV1 (pc := 20) (av := [vI x2]) (S := []) dX1_gatherRead_20 (kX1_leastWith hc6) g1 rfl mkX1_87 mwX1_leastWith rfl ⟨Nat.le_of_ble_eq_true rfl, Nat.le_of_ble_eq_true rfl⟩ (Nat.le_of_ble_eq_true rfl) ⟨Nat.le_refl _, Nat.le_refl _⟩ (fun b => b) ?_
        refine r_iload_n (pc := 23) dX1_gatherRead_23 rfl 2 rfl ?_
        refine r_icmp_ne (pc := 24) (tgt := 83) dX1_gatherRead_24 rfl (fun c => ?_) (fun c => ?_)
        · have h := ie h c
          refine r_iinc (pc := 83) (v := (x2 + (1 : Int32))) (L' := [(2, vI (x2 + (1 : Int32))), (0, vR (some t)), (1, vI x1)]) dX1_gatherRead_83 2 rfl (kc_inc_1 _) (by decide) rfl ?_
          refine r_goto (pc := 86) (tgt := 4) dX1_gatherRead_86 rfl ?_
          refine r_sub [1, 2, 0] rfl ?_
          exact ih _ _ _ h
        · have h := it h c
          refine r_iload_n (pc := 27) dX1_gatherRead_27 rfl 1 rfl ?_
          refine r_istore_n (pc := 28) (L' := [(3, vI x1), (0, vR (some t)), (1, vI x1), (2, vI x2)]) dX1_gatherRead_28 rfl (by decide) rfl ?_
          refine r_sub [1, 2, 3, 0] rfl ?_
          exact wX1_gatherRead_l29 ih _ _ _ _ _ h
def fX1_gatherRead (σ : Shp) (I : Nat → Nat → Int32) (R : Nat → Nat → Option Nat) (t : Nat)  : Option ((Nat → Nat → Int32) × (Int32)) :=
  fX1_gatherRead_l4 σ R t FUx I (0 : Int32) (0 : Int32)
theorem kX1_gatherRead {G : Gx} {l : Launch} {σ : Shp} {I : Nat → Nat → Int32} {J : Nat → Nat → Int64} {D : Nat → Nat → UInt64} {R : Nat → Nat → Option Nat} {t : Nat}  {I9 : Nat → Nat → Int32} {r9 : Int32} (h : fX1_gatherRead σ I R t = some (I9, r9)) : Con G l yX1_gatherRead cX1_gatherRead 4 (some .int) 5 119 [vR (some t)] (σ, I, J, D, R) (σ, I9, J, D, R) (some (vI r9)) := by
  unfold fX1_gatherRead at h
  refine Con.mk (by decide +kernel) rfl (Nat.le_of_ble_eq_true rfl) ?_
  show WX1_gatherRead G l σ (σ, I9, J, D, R) (some (vI r9)) (σ, I, J, D, R) 0 _ []
  refine r_iconst (pc := 0) dX1_gatherRead_0 kc_iconst_0 ?_
  refine r_istore_n (pc := 1) (L' := [(1, vI (0 : Int32)), (0, vR (some t))]) dX1_gatherRead_1 rfl (by decide) rfl ?_
  refine r_iconst (pc := 2) dX1_gatherRead_2 kc_iconst_0 ?_
  refine r_istore_n (pc := 3) (L' := [(2, vI (0 : Int32)), (1, vI (0 : Int32)), (0, vR (some t))]) dX1_gatherRead_3 rfl (by decide) rfl ?_
  refine r_sub [2, 1, 0] rfl ?_
  exact wX1_gatherRead_l4 _ _ _ _ h
abbrev WX1_opened (G : Gx) (l : Launch) (σ0 : Shp) (X1 : Stt) (rv : Option SV) : Stt → Nat → List (Nat × SV) → List SV → Prop := Wm G l yX1_opened cX1_opened 3 (some .int) (fun _ => True) (rmx 6 142 σ0 X1.1) σ0 (Qmx G σ0 X1 rv)
def fX1_opened_l46  (σ : Shp) (R : Nat → Nat → Option Nat) (t : Nat) : Nat → (Nat → Nat → Int32) → (Int32) → (Int32) → Option ((Nat → Nat → Int32) × (Int32))
  | 0, _, _, _ => none
  | n + 1, I, x1, x2 =>
    if (20 : Int32) ≤ x2 then
      some (I, x1)
    else
      if kdx σ t = 2 then
      (fX1_allZero σ I R t x2 (0 : Int32) (64 : Int32)).bind fun r15 =>
      if r15 = 0 then
        let I18 := u2 I t 4 (x2 + (1 : Int32))
        let v19 := x2 + (1 : Int32)
        fX1_opened_l46 σ R t n I18 x1 v19
      else
        let v17 := x2 + (1 : Int32)
        fX1_opened_l46 σ R t n I x1 v17
      else none
theorem wX1_opened_l46 {G : Gx} {l : Launch} {σ : Shp} {J : Nat → Nat → Int64} {D : Nat → Nat → UInt64} {R : Nat → Nat → Option Nat} {t : Nat} {I9 : Nat → Nat → Int32} {r9 : Int32} : ∀ (n : Nat) (I : Nat → Nat → Int32) (x1 : Int32) (x2 : Int32), fX1_opened_l46 σ R t n I x1 x2 = some (I9, r9) → WX1_opened G l σ (σ, I9, J, D, R) (some (vI r9)) (σ, I, J, D, R) 46 [(0, vR (some t)), (1, vI x1), (2, vI x2)] [] := by
  intro n
  induction n with
  | zero =>
    intro I x1 x2 h
    have h : none = some _ := h
    cases h
  | succ n ih =>
    intro I x1 x2 h
    rw [fX1_opened_l46] at h
    refine r_iload_n (pc := 46) dX1_opened_46 rfl 2 rfl ?_
    refine r_bipush (pc := 47) dX1_opened_47 kc_bipush_20 ?_
    refine r_icmp_ge (pc := 49) (tgt := 76) dX1_opened_49 rfl (fun c => ?_) (fun c => ?_)
    · have h := it h c
      refine r_iload_n (pc := 76) dX1_opened_76 rfl 1 rfl ?_
      cases h
      exact r_iret dX1_opened_77
    · have h := ie h c
      refine r_aload_n (pc := 52) dX1_opened_52 rfl 0 rfl ?_
      refine r_iload_n (pc := 53) dX1_opened_53 rfl 2 rfl ?_
      refine r_iconst (pc := 54) dX1_opened_54 kc_iconst_0 ?_
      refine r_bipush (pc := 55) dX1_opened_55 kc_bipush_64 ?_
      obtain ⟨g14, h⟩ := gd h
      obtain ⟨r15, hc16, h⟩ := ob h
      refine r_callV1 (pc := 57) (av := [vI x2, vI (0 : Int32), vI (64 : Int32)]) (S := []) dX1_opened_57 (kX1_allZero hc16) g14 rfl mkX1_76 mwX1_allZero rfl ⟨Nat.le_of_ble_eq_true rfl, Nat.le_of_ble_eq_true rfl⟩ (Nat.le_of_ble_eq_true rfl) ⟨Nat.le_refl _, Nat.le_refl _⟩ (fun b => b) ?_
      refine r_ifne (pc := 60) (tgt := 70) dX1_opened_60 rfl (fun c => ?_) (fun c => ?_)
      · have h := ie h c
        refine r_iinc (pc := 70) (v := (x2 + (1 : Int32))) (L' := [(2, vI (x2 + (1 : Int32))), (0, vR (some t)), (1, vI x1)]) dX1_opened_70 2 rfl (kc_inc_1 _) (by decide) rfl ?_
        refine r_goto (pc := 73) (tgt := 46) dX1_opened_73 rfl ?_
        refine r_sub [1, 2, 0] rfl ?_
        exact ih _ _ _ h
      · have h := it h c
        refine r_aload_n (pc := 63) dX1_opened_63 rfl 0 rfl ?_
        refine r_iload_n (pc := 64) dX1_opened_64 rfl 2 rfl ?_
        refine r_iconst (pc := 65) dX1_opened_65 kc_iconst_1 ?_
        refine r_iadd (pc := 66) dX1_opened_66 ?_
        refine r_putI (pc := 67) dX1_opened_67 fwX1_29 rfl g14 ?_
        refine r_iinc (pc := 70) (v := (x2 + (1 : Int32))) (L' := [(2, vI (x2 + (1 : Int32))), (0, vR (some t)), (1, vI x1)]) dX1_opened_70 2 rfl (kc_inc_1 _) (by decide) rfl ?_
        refine r_goto (pc := 73) (tgt := 46) dX1_opened_73 rfl ?_
        refine r_sub [1, 2, 0] rfl ?_
        exact ih _ _ _ h
def fX1_opened (σ : Shp) (I : Nat → Nat → Int32) (R : Nat → Nat → Option Nat) (t : Nat)  : Option ((Nat → Nat → Int32) × (Int32)) :=
  if kdx σ t = 2 then
  let I2 := u2 I t 6 (-1 : Int32)
  let I3 := u2 I2 t 5 (0 : Int32)
  (fX1_gatherRead σ I3 R t).bind fun (I4, r5) =>
  if r5 = 0 then
    let I20 := u2 I4 t 3 (0 : Int32)
    let I21 := u2 I20 t 4 (0 : Int32)
    fX1_opened_l46 σ R t FUx I21 r5 (0 : Int32)
  else
    ((R t 2) : Option Nat).bind fun a7 =>
    if kdx σ a7 = 20 then
    if ¬ ((r5 - (1 : Int32)) < 0 ∨ lnx σ a7 ≤ Int32.toNatClampNeg (r5 - (1 : Int32))) then
    (fX1_numberOf σ I4 R t (I4 a7 (Int32.toNatClampNeg (r5 - (1 : Int32))))).bind fun r10 =>
    let I12 := u2 I4 t 3 r10
    let I13 := u2 I12 t 4 (0 : Int32)
    fX1_opened_l46 σ R t FUx I13 r5 (0 : Int32)
    else none
    else none
  else none
theorem kX1_opened {G : Gx} {l : Launch} {σ : Shp} {I : Nat → Nat → Int32} {J : Nat → Nat → Int64} {D : Nat → Nat → UInt64} {R : Nat → Nat → Option Nat} {t : Nat}  {I9 : Nat → Nat → Int32} {r9 : Int32} (h : fX1_opened σ I R t = some (I9, r9)) : Con G l yX1_opened cX1_opened 3 (some .int) 6 142 [vR (some t)] (σ, I, J, D, R) (σ, I9, J, D, R) (some (vI r9)) := by
  unfold fX1_opened at h
  refine Con.mk (by decide +kernel) rfl (Nat.le_of_ble_eq_true rfl) ?_
  show WX1_opened G l σ (σ, I9, J, D, R) (some (vI r9)) (σ, I, J, D, R) 0 _ []
  refine r_aload_n (pc := 0) dX1_opened_0 rfl 0 rfl ?_
  refine r_iconst (pc := 1) dX1_opened_1 kc_iconst_m1 ?_
  obtain ⟨g1, h⟩ := gd h
  refine r_putI (pc := 2) dX1_opened_2 fwX1_21 rfl g1 ?_
  refine r_aload_n (pc := 5) dX1_opened_5 rfl 0 rfl ?_
  refine r_iconst (pc := 6) dX1_opened_6 kc_iconst_0 ?_
  refine r_putZ (pc := 7) dX1_opened_7 fwX1_25 rfl (Or.inl rfl) g1 ?_
  refine r_aload_n (pc := 10) dX1_opened_10 rfl 0 rfl ?_
  obtain ⟨⟨I4, r5⟩, hc6, h⟩ := ob h
  refine r_callV1 (pc := 11) (av := []) (S := []) dX1_opened_11 (kX1_gatherRead hc6) g1 rfl mkX1_90 mwX1_gatherRead rfl ⟨Nat.le_of_ble_eq_true rfl, Nat.le_of_ble_eq_true rfl⟩ (Nat.le_of_ble_eq_true rfl) ⟨Nat.le_refl _, Nat.le_refl _⟩ (fun b => b) ?_
  refine r_istore_n (pc := 14) (L' := [(1, vI r5), (0, vR (some t))]) dX1_opened_14 rfl (by decide) rfl ?_
  refine r_aload_n (pc := 15) dX1_opened_15 rfl 1 rfl ?_
  refine r_iload_n (pc := 16) dX1_opened_16 rfl 0 rfl ?_
  refine r_ifne (pc := 17) (tgt := 24) dX1_opened_17 rfl (fun c => ?_) (fun c => ?_)
  · have h := ie h c
    refine r_aload_n (pc := 24) dX1_opened_24 rfl 1 rfl ?_
    refine r_aload_n (pc := 25) dX1_opened_25 rfl 1 rfl ?_
    obtain ⟨a7, ha7, h⟩ := ob h
    refine r_getS (pc := 26) dX1_opened_26 fgX1_18 rfl g1 ha7 ?_
    refine r_iload_n (pc := 29) dX1_opened_29 rfl 0 rfl ?_
    refine r_iconst (pc := 30) dX1_opened_30 kc_iconst_1 ?_
    refine r_isub (pc := 31) dX1_opened_31 ?_
    obtain ⟨g8, h⟩ := gd h
    obtain ⟨g9, h⟩ := gd h
    refine r_iaload (pc := 32) dX1_opened_32 g8 g9 ?_
    obtain ⟨r10, hc11, h⟩ := ob h
    refine r_callV1 (pc := 33) (av := [vI (I4 a7 (Int32.toNatClampNeg (r5 - (1 : Int32))))]) (S := [vR (some t)]) dX1_opened_33 (kX1_numberOf hc11) g1 rfl mkX1_68 mwX1_numberOf rfl ⟨Nat.le_of_ble_eq_true rfl, Nat.le_of_ble_eq_true rfl⟩ (Nat.le_of_ble_eq_true rfl) ⟨Nat.le_refl _, Nat.le_refl _⟩ (fun b => b) ?_
    refine r_putI (pc := 36) dX1_opened_36 fwX1_32 rfl g1 ?_
    refine r_aload_n (pc := 39) dX1_opened_39 rfl 1 rfl ?_
    refine r_iconst (pc := 40) dX1_opened_40 kc_iconst_0 ?_
    refine r_putI (pc := 41) dX1_opened_41 fwX1_29 rfl g1 ?_
    refine r_iconst (pc := 44) dX1_opened_44 kc_iconst_0 ?_
    refine r_istore_n (pc := 45) (L' := [(2, vI (0 : Int32)), (1, vI r5), (0, vR (some t))]) dX1_opened_45 rfl (by decide) rfl ?_
    refine r_sub [2, 1, 0] rfl ?_
    exact wX1_opened_l46 _ _ _ _ h
  · have h := it h c
    refine r_iconst (pc := 20) dX1_opened_20 kc_iconst_0 ?_
    refine r_goto (pc := 21) (tgt := 36) dX1_opened_21 rfl ?_
    refine r_putI (pc := 36) dX1_opened_36 fwX1_32 rfl g1 ?_
    refine r_aload_n (pc := 39) dX1_opened_39 rfl 1 rfl ?_
    refine r_iconst (pc := 40) dX1_opened_40 kc_iconst_0 ?_
    refine r_putI (pc := 41) dX1_opened_41 fwX1_29 rfl g1 ?_
    refine r_iconst (pc := 44) dX1_opened_44 kc_iconst_0 ?_
    refine r_istore_n (pc := 45) (L' := [(2, vI (0 : Int32)), (1, vI r5), (0, vR (some t))]) dX1_opened_45 rfl (by decide) rfl ?_
    refine r_sub [2, 1, 0] rfl ?_
    exact wX1_opened_l46 _ _ _ _ h
abbrev WX1_readOf (G : Gx) (l : Launch) (σ0 : Shp) (X1 : Stt) (rv : Option SV) : Stt → Nat → List (Nat × SV) → List SV → Prop := Wm G l yX1_readOf cX1_readOf 5 (some .long) (fun _ => True) (rmx 6 142 σ0 X1.1) σ0 (Qmx G σ0 X1 rv)
def fX1_readOf (σ : Shp) (I : Nat → Nat → Int32) (R : Nat → Nat → Option Nat) (t : Nat) (x1 : Int32) (x2 : Int32) : Option ((Nat → Nat → Int32) × (Int64)) :=
  if x1 < 0 then
    some (I, (-1 : Int64))
  else
    if kdx σ t = 2 then
    (fX1_gatherRead σ I R t).bind fun (I2, r3) =>
    if r3 ≤ x1 then
      some (I2, (-1 : Int64))
    else
      if x1 < (20 : Int32) then
        ((R t 2) : Option Nat).bind fun a5 =>
        if kdx σ a5 = 20 then
        if ¬ (x1 < 0 ∨ lnx σ a5 ≤ Int32.toNatClampNeg x1) then
        let v8 := (I2 a5 (Int32.toNatClampNeg x1))
        (fX1_numberAt σ I2 R t v8 (5 : Int32) (1 : Int32)).bind fun r9 =>
        let v11 := (Int64.toInt32 r9)
        if x2 = (0 : Int32) then
          some (I2, (Int32.toInt64 v8))
        else
        if x2 = (1 : Int32) then
          (fX1_numberOf σ I2 R t v8).bind fun r20 =>
          some (I2, (Int32.toInt64 r20))
        else
        if x2 = (2 : Int32) then
          (fX1_numberAt σ I2 R t v8 (4 : Int32) (1 : Int32)).bind fun r18 =>
          some (I2, r18)
        else
        if x2 = (3 : Int32) then
          some (I2, (Int32.toInt64 v11))
        else
        if x2 < (10 : Int32) then
          some (I2, (-1 : Int64))
        else
          if ((10 : Int32) + v11) ≤ x2 then
            some (I2, (-1 : Int64))
          else
            (fX1_numberAt σ I2 R t v8 ((12 : Int32) + ((8 : Int32) * (x2 - (10 : Int32)))) (8 : Int32)).bind fun r16 =>
            some (I2, r16)
        else none
        else none
      else
        some (I2, (-1 : Int64))
    else none
theorem kX1_readOf {G : Gx} {l : Launch} {σ : Shp} {I : Nat → Nat → Int32} {J : Nat → Nat → Int64} {D : Nat → Nat → UInt64} {R : Nat → Nat → Option Nat} {t : Nat} {x1 : Int32} {x2 : Int32} {I9 : Nat → Nat → Int32} {r9 : Int64} (h : fX1_readOf σ I R t x1 x2 = some (I9, r9)) : Con G l yX1_readOf cX1_readOf 5 (some .long) 6 142 [vR (some t), vI x1, vI x2] (σ, I, J, D, R) (σ, I9, J, D, R) (some (vL r9)) := by
  unfold fX1_readOf at h
  refine Con.mk (by decide +kernel) rfl (Nat.le_of_ble_eq_true rfl) ?_
  show WX1_readOf G l σ (σ, I9, J, D, R) (some (vL r9)) (σ, I, J, D, R) 0 _ []
  refine r_iload_n (pc := 0) dX1_readOf_0 rfl 1 rfl ?_
  refine r_if_lt (pc := 1) (tgt := 18) dX1_readOf_1 rfl (fun c => ?_) (fun c => ?_)
  · have h := it h c
    refine r_ldc2 (pc := 18) dX1_readOf_18 clX1_94 ?_
    cases h
    exact r_lret dX1_readOf_21
  · have h := ie h c
    refine r_iload_n (pc := 4) dX1_readOf_4 rfl 1 rfl ?_
    refine r_aload_n (pc := 5) dX1_readOf_5 rfl 0 rfl ?_
    obtain ⟨g1, h⟩ := gd h
    obtain ⟨⟨I2, r3⟩, hc4, h⟩ := ob h
    refine r_callV1 (pc := 6) (av := []) (S := [vI x1]) dX1_readOf_6 (kX1_gatherRead hc4) g1 rfl mkX1_90 mwX1_gatherRead rfl ⟨Nat.le_of_ble_eq_true rfl, Nat.le_of_ble_eq_true rfl⟩ (Nat.le_of_ble_eq_true rfl) ⟨Nat.le_refl _, Nat.le_refl _⟩ (fun b => b) ?_
    refine r_icmp_ge (pc := 9) (tgt := 18) dX1_readOf_9 rfl (fun c => ?_) (fun c => ?_)
    · have h := it h c
      refine r_ldc2 (pc := 18) dX1_readOf_18 clX1_94 ?_
      cases h
      exact r_lret dX1_readOf_21
    · have h := ie h c
      refine r_iload_n (pc := 12) dX1_readOf_12 rfl 1 rfl ?_
      refine r_bipush (pc := 13) dX1_readOf_13 kc_bipush_20 ?_
      refine r_icmp_lt (pc := 15) (tgt := 22) dX1_readOf_15 rfl (fun c => ?_) (fun c => ?_)
      · have h := it h c
        refine r_aload_n (pc := 22) dX1_readOf_22 rfl 0 rfl ?_
        obtain ⟨a5, ha5, h⟩ := ob h
        refine r_getS (pc := 23) dX1_readOf_23 fgX1_18 rfl g1 ha5 ?_
        refine r_iload_n (pc := 26) dX1_readOf_26 rfl 1 rfl ?_
        obtain ⟨g6, h⟩ := gd h
        obtain ⟨g7, h⟩ := gd h
        refine r_iaload (pc := 27) dX1_readOf_27 g6 g7 ?_
        refine r_istore_n (pc := 28) (L' := [(3, vI (I2 a5 (Int32.toNatClampNeg x1))), (0, vR (some t)), (1, vI x1), (2, vI x2)]) dX1_readOf_28 rfl (by decide) rfl ?_
        refine r_aload_n (pc := 29) dX1_readOf_29 rfl 1 rfl ?_
        refine r_iload_n (pc := 30) dX1_readOf_30 rfl 0 rfl ?_
        refine r_iconst (pc := 31) dX1_readOf_31 kc_iconst_5 ?_
        refine r_iconst (pc := 32) dX1_readOf_32 kc_iconst_1 ?_
        obtain ⟨r9, hc10, h⟩ := ob h
        refine r_callV1 (pc := 33) (av := [vI (I2 a5 (Int32.toNatClampNeg x1)), vI (5 : Int32), vI (1 : Int32)]) (S := []) dX1_readOf_33 (kX1_numberAt hc10) g1 rfl mkX1_64 mwX1_numberAt rfl ⟨Nat.le_of_ble_eq_true rfl, Nat.le_of_ble_eq_true rfl⟩ (Nat.le_of_ble_eq_true rfl) ⟨Nat.le_refl _, Nat.le_refl _⟩ (fun b => b) ?_
        refine r_l2i (pc := 36) dX1_readOf_36 ?_
        refine r_istore (pc := 37) (L' := [(4, vI (Int64.toInt32 r9)), (3, vI (I2 a5 (Int32.toNatClampNeg x1))), (0, vR (some t)), (1, vI x1), (2, vI x2)]) dX1_readOf_37 (by decide) rfl ?_
        refine r_iload_n (pc := 39) dX1_readOf_39 rfl 4 rfl ?_
        rcases itc h with ⟨c12, h⟩ | ⟨c12, h⟩
        · refine r_tsIn (x := x2) (pc := 40) (tgt := 72) dX1_readOf_40 (by rw [c12]; decide) (by rw [c12]; decide) (by rw [c12]; rfl) rfl ?_
          refine r_iload_n (pc := 72) dX1_readOf_72 rfl 1 rfl ?_
          refine r_i2l (pc := 73) dX1_readOf_73 ?_
          cases h
          exact r_lret dX1_readOf_74
        · rcases itc h with ⟨c13, h⟩ | ⟨c13, h⟩
          · refine r_tsIn (x := x2) (pc := 40) (tgt := 75) dX1_readOf_40 (by rw [c13]; decide) (by rw [c13]; decide) (by rw [c13]; rfl) rfl ?_
            refine r_aload_n (pc := 75) dX1_readOf_75 rfl 2 rfl ?_
            refine r_iload_n (pc := 76) dX1_readOf_76 rfl 1 rfl ?_
            obtain ⟨r20, hc21, h⟩ := ob h
            refine r_callV1 (pc := 77) (av := [vI (I2 a5 (Int32.toNatClampNeg x1))]) (S := []) dX1_readOf_77 (kX1_numberOf hc21) g1 rfl mkX1_68 mwX1_numberOf rfl ⟨Nat.le_of_ble_eq_true rfl, Nat.le_of_ble_eq_true rfl⟩ (Nat.le_of_ble_eq_true rfl) ⟨Nat.le_refl _, Nat.le_refl _⟩ (fun b => b) ?_
            refine r_i2l (pc := 80) dX1_readOf_80 ?_
            cases h
            exact r_lret dX1_readOf_81
          · rcases itc h with ⟨c14, h⟩ | ⟨c14, h⟩
            · refine r_tsIn (x := x2) (pc := 40) (tgt := 82) dX1_readOf_40 (by rw [c14]; decide) (by rw [c14]; decide) (by rw [c14]; rfl) rfl ?_
              refine r_aload_n (pc := 82) dX1_readOf_82 rfl 2 rfl ?_
              refine r_iload_n (pc := 83) dX1_readOf_83 rfl 1 rfl ?_
              refine r_iconst (pc := 84) dX1_readOf_84 kc_iconst_4 ?_
              refine r_iconst (pc := 85) dX1_readOf_85 kc_iconst_1 ?_
              obtain ⟨r18, hc19, h⟩ := ob h
              refine r_callV1 (pc := 86) (av := [vI (I2 a5 (Int32.toNatClampNeg x1)), vI (4 : Int32), vI (1 : Int32)]) (S := []) dX1_readOf_86 (kX1_numberAt hc19) g1 rfl mkX1_64 mwX1_numberAt rfl ⟨Nat.le_of_ble_eq_true rfl, Nat.le_of_ble_eq_true rfl⟩ (Nat.le_of_ble_eq_true rfl) ⟨Nat.le_refl _, Nat.le_refl _⟩ (fun b => b) ?_
              cases h
              exact r_lret dX1_readOf_89
            · rcases itc h with ⟨c15, h⟩ | ⟨c15, h⟩
              · refine r_tsIn (x := x2) (pc := 40) (tgt := 90) dX1_readOf_40 (by rw [c15]; decide) (by rw [c15]; decide) (by rw [c15]; rfl) rfl ?_
                refine r_iload (pc := 90) dX1_readOf_90 0 rfl ?_
                refine r_i2l (pc := 92) dX1_readOf_92 ?_
                cases h
                exact r_lret dX1_readOf_93
              · refine r_tsOut (x := x2) (pc := 40) (tgt := 94) dX1_readOf_40 (by have ec12 := i32n c12 (k := 0) rfl; have ec13 := i32n c13 (k := 1) rfl; have ec14 := i32n c14 (k := 2) rfl; have ec15 := i32n c15 (k := 3) rfl; omega) rfl ?_
                refine r_iload_n (pc := 94) dX1_readOf_94 rfl 4 rfl ?_
                refine r_bipush (pc := 95) dX1_readOf_95 kc_bipush_10 ?_
                refine r_icmp_lt (pc := 97) (tgt := 129) dX1_readOf_97 rfl (fun c => ?_) (fun c => ?_)
                · have h := it h c
                  refine r_ldc2 (pc := 129) dX1_readOf_129 clX1_94 ?_
                  cases h
                  exact r_lret dX1_readOf_132
                · have h := ie h c
                  refine r_iload_n (pc := 100) dX1_readOf_100 rfl 4 rfl ?_
                  refine r_bipush (pc := 101) dX1_readOf_101 kc_bipush_10 ?_
                  refine r_iload (pc := 103) dX1_readOf_103 0 rfl ?_
                  refine r_iadd (pc := 105) dX1_readOf_105 ?_
                  refine r_icmp_ge (pc := 106) (tgt := 129) dX1_readOf_106 rfl (fun c => ?_) (fun c => ?_)
                  · have h := it h c
                    refine r_ldc2 (pc := 129) dX1_readOf_129 clX1_94 ?_
                    cases h
                    exact r_lret dX1_readOf_132
                  · have h := ie h c
                    refine r_aload_n (pc := 109) dX1_readOf_109 rfl 2 rfl ?_
                    refine r_iload_n (pc := 110) dX1_readOf_110 rfl 1 rfl ?_
                    refine r_bipush (pc := 111) dX1_readOf_111 kc_bipush_12 ?_
                    refine r_bipush (pc := 113) dX1_readOf_113 kc_bipush_8 ?_
                    refine r_iload_n (pc := 115) dX1_readOf_115 rfl 4 rfl ?_
                    refine r_bipush (pc := 116) dX1_readOf_116 kc_bipush_10 ?_
                    refine r_isub (pc := 118) dX1_readOf_118 ?_
                    refine r_imul (pc := 119) dX1_readOf_119 ?_
                    refine r_iadd (pc := 120) dX1_readOf_120 ?_
                    refine r_bipush (pc := 121) dX1_readOf_121 kc_bipush_8 ?_
                    obtain ⟨r16, hc17, h⟩ := ob h
                    refine r_callV1 (pc := 123) (av := [vI (I2 a5 (Int32.toNatClampNeg x1)), vI ((12 : Int32) + ((8 : Int32) * (x2 - (10 : Int32)))), vI (8 : Int32)]) (S := []) dX1_readOf_123 (kX1_numberAt hc17) g1 rfl mkX1_64 mwX1_numberAt rfl ⟨Nat.le_of_ble_eq_true rfl, Nat.le_of_ble_eq_true rfl⟩ (Nat.le_of_ble_eq_true rfl) ⟨Nat.le_refl _, Nat.le_refl _⟩ (fun b => b) ?_
                    refine r_goto (pc := 126) (tgt := 132) dX1_readOf_126 rfl ?_
                    cases h
                    exact r_lret dX1_readOf_132
      · have h := ie h c
        refine r_ldc2 (pc := 18) dX1_readOf_18 clX1_94 ?_
        cases h
        exact r_lret dX1_readOf_21
abbrev WX1_samePages (G : Gx) (l : Launch) (σ0 : Shp) (X1 : Stt) (rv : Option SV) : Stt → Nat → List (Nat × SV) → List SV → Prop := Wm G l yX1_samePages cX1_samePages 4 (some .boolean) (fun _ => True) (rmx 2 47 σ0 X1.1) σ0 (Qmx G σ0 X1 rv)
def fX1_samePages_l2  (σ : Shp) (I : Nat → Nat → Int32) (R : Nat → Nat → Option Nat) (t : Nat) : Nat → (Int32) → (Int32) → (Int32) → Option ((Int32))
  | 0, _, _, _ => none
  | n + 1, x1, x2, x3 =>
    if (64 : Int32) ≤ x3 then
      some (1 : Int32)
    else
      if kdx σ t = 2 then
      (fX1_numberAt σ I R t x1 x3 (1 : Int32)).bind fun r2 =>
      (fX1_numberAt σ I R t x2 x3 (1 : Int32)).bind fun r4 =>
      if r2 = r4 then
        let v6 := x3 + (1 : Int32)
        fX1_samePages_l2 σ I R t n x1 x2 v6
      else
        some (0 : Int32)
      else none
theorem wX1_samePages_l2 {G : Gx} {l : Launch} {σ : Shp} {I : Nat → Nat → Int32} {J : Nat → Nat → Int64} {D : Nat → Nat → UInt64} {R : Nat → Nat → Option Nat} {t : Nat} {r9 : Int32} : ∀ (n : Nat) (x1 : Int32) (x2 : Int32) (x3 : Int32), fX1_samePages_l2 σ I R t n x1 x2 x3 = some r9 → WX1_samePages G l σ (σ, I, J, D, R) (some (vI r9)) (σ, I, J, D, R) 2 [(0, vR (some t)), (1, vI x1), (2, vI x2), (3, vI x3)] [] := by
  intro n
  induction n with
  | zero =>
    intro x1 x2 x3 h
    have h : none = some _ := h
    cases h
  | succ n ih =>
    intro x1 x2 x3 h
    rw [fX1_samePages_l2] at h
    refine r_iload_n (pc := 2) dX1_samePages_2 rfl 3 rfl ?_
    refine r_bipush (pc := 3) dX1_samePages_3 kc_bipush_64 ?_
    refine r_icmp_ge (pc := 5) (tgt := 34) dX1_samePages_5 rfl (fun c => ?_) (fun c => ?_)
    · have h := it h c
      refine r_iconst (pc := 34) dX1_samePages_34 kc_iconst_1 ?_
      cases h
      exact r_zret dX1_samePages_35 (Or.inr rfl)
    · have h := ie h c
      refine r_aload_n (pc := 8) dX1_samePages_8 rfl 0 rfl ?_
      refine r_iload_n (pc := 9) dX1_samePages_9 rfl 1 rfl ?_
      refine r_iload_n (pc := 10) dX1_samePages_10 rfl 3 rfl ?_
      refine r_iconst (pc := 11) dX1_samePages_11 kc_iconst_1 ?_
      obtain ⟨g1, h⟩ := gd h
      obtain ⟨r2, hc3, h⟩ := ob h
      refine r_callV1 (pc := 12) (av := [vI x1, vI x3, vI (1 : Int32)]) (S := []) dX1_samePages_12 (kX1_numberAt hc3) g1 rfl mkX1_64 mwX1_numberAt rfl ⟨Nat.le_of_ble_eq_true rfl, Nat.le_of_ble_eq_true rfl⟩ (Nat.le_of_ble_eq_true rfl) ⟨Nat.le_refl _, Nat.le_refl _⟩ (fun b => b) ?_
      refine r_aload_n (pc := 15) dX1_samePages_15 rfl 0 rfl ?_
      refine r_iload_n (pc := 16) dX1_samePages_16 rfl 2 rfl ?_
      refine r_iload_n (pc := 17) dX1_samePages_17 rfl 3 rfl ?_
      refine r_iconst (pc := 18) dX1_samePages_18 kc_iconst_1 ?_
      obtain ⟨r4, hc5, h⟩ := ob h
      refine r_callV1 (pc := 19) (av := [vI x2, vI x3, vI (1 : Int32)]) (S := [vL r2]) dX1_samePages_19 (kX1_numberAt hc5) g1 rfl mkX1_64 mwX1_numberAt rfl ⟨Nat.le_of_ble_eq_true rfl, Nat.le_of_ble_eq_true rfl⟩ (Nat.le_of_ble_eq_true rfl) ⟨Nat.le_refl _, Nat.le_refl _⟩ (fun b => b) ?_
      refine r_lcmp (pc := 22) dX1_samePages_22 ?_
      refine r_if_eq (pc := 23) (tgt := 28) dX1_samePages_23 rfl (fun c => ?_) (fun c => ?_)
      · have h := it h (lgc_eq.mp c)
        refine r_iinc (pc := 28) (v := (x3 + (1 : Int32))) (L' := [(3, vI (x3 + (1 : Int32))), (0, vR (some t)), (1, vI x1), (2, vI x2)]) dX1_samePages_28 3 rfl (kc_inc_1 _) (by decide) rfl ?_
        refine r_goto (pc := 31) (tgt := 2) dX1_samePages_31 rfl ?_
        refine r_sub [1, 2, 3, 0] rfl ?_
        exact ih _ _ _ h
      · have h := ie h (fun q => c (lgc_eq.mpr q))
        refine r_iconst (pc := 26) dX1_samePages_26 kc_iconst_0 ?_
        cases h
        exact r_zret dX1_samePages_27 (Or.inl rfl)
def fX1_samePages (σ : Shp) (I : Nat → Nat → Int32) (R : Nat → Nat → Option Nat) (t : Nat) (x1 : Int32) (x2 : Int32) : Option ((Int32)) :=
  fX1_samePages_l2 σ I R t FUx x1 x2 (0 : Int32)
theorem kX1_samePages {G : Gx} {l : Launch} {σ : Shp} {I : Nat → Nat → Int32} {J : Nat → Nat → Int64} {D : Nat → Nat → UInt64} {R : Nat → Nat → Option Nat} {t : Nat} {x1 : Int32} {x2 : Int32} {r9 : Int32} (h : fX1_samePages σ I R t x1 x2 = some r9) : Con G l yX1_samePages cX1_samePages 4 (some .boolean) 2 47 [vR (some t), vI x1, vI x2] (σ, I, J, D, R) (σ, I, J, D, R) (some (vI r9)) := by
  unfold fX1_samePages at h
  refine Con.mk (by decide +kernel) rfl (Nat.le_of_ble_eq_true rfl) ?_
  show WX1_samePages G l σ (σ, I, J, D, R) (some (vI r9)) (σ, I, J, D, R) 0 _ []
  refine r_iconst (pc := 0) dX1_samePages_0 kc_iconst_0 ?_
  refine r_istore_n (pc := 1) (L' := [(3, vI (0 : Int32)), (0, vR (some t)), (1, vI x1), (2, vI x2)]) dX1_samePages_1 rfl (by decide) rfl ?_
  refine r_sub [1, 2, 3, 0] rfl ?_
  exact wX1_samePages_l2 _ _ _ _ h
abbrev WX1_clashes (G : Gx) (l : Launch) (σ0 : Shp) (X1 : Stt) (rv : Option SV) : Stt → Nat → List (Nat × SV) → List SV → Prop := Wm G l yX1_clashes cX1_clashes 3 (some .int) (fun _ => True) (rmx 5 119 σ0 X1.1) σ0 (Qmx G σ0 X1 rv)
def fX1_clashes_l4  (σ : Shp) (I : Nat → Nat → Int32) (R : Nat → Nat → Option Nat) (t : Nat) : Nat → (Int32) → (Int32) → Option ((Int32))
  | 0, _, _ => none
  | n + 1, x1, x2 =>
    if (20 : Int32) ≤ x2 then
      some x1
    else
      if kdx σ t = 2 then
      (fX1_isWhole σ I R t x2).bind fun r2 =>
      if r2 = 0 then
        let v4 := x2 + (1 : Int32)
        fX1_clashes_l4 σ I R t n x1 v4
      else
        (fX1_leastWith σ I R t x2).bind fun r5 =>
        (fX1_samePages σ I R t x2 r5).bind fun r7 =>
        if r7 = 0 then
          let v10 := x1 + (1 : Int32)
          let v11 := x2 + (1 : Int32)
          fX1_clashes_l4 σ I R t n v10 v11
        else
          let v9 := x2 + (1 : Int32)
          fX1_clashes_l4 σ I R t n x1 v9
      else none
theorem wX1_clashes_l4 {G : Gx} {l : Launch} {σ : Shp} {I : Nat → Nat → Int32} {J : Nat → Nat → Int64} {D : Nat → Nat → UInt64} {R : Nat → Nat → Option Nat} {t : Nat} {r9 : Int32} : ∀ (n : Nat) (x1 : Int32) (x2 : Int32), fX1_clashes_l4 σ I R t n x1 x2 = some r9 → WX1_clashes G l σ (σ, I, J, D, R) (some (vI r9)) (σ, I, J, D, R) 4 [(0, vR (some t)), (1, vI x1), (2, vI x2)] [] := by
  intro n
  induction n with
  | zero =>
    intro x1 x2 h
    have h : none = some _ := h
    cases h
  | succ n ih =>
    intro x1 x2 h
    rw [fX1_clashes_l4] at h
    refine r_iload_n (pc := 4) dX1_clashes_4 rfl 2 rfl ?_
    refine r_bipush (pc := 5) dX1_clashes_5 kc_bipush_20 ?_
    refine r_icmp_ge (pc := 7) (tgt := 40) dX1_clashes_7 rfl (fun c => ?_) (fun c => ?_)
    · have h := it h c
      refine r_iload_n (pc := 40) dX1_clashes_40 rfl 1 rfl ?_
      cases h
      exact r_iret dX1_clashes_41
    · have h := ie h c
      refine r_aload_n (pc := 10) dX1_clashes_10 rfl 0 rfl ?_
      refine r_iload_n (pc := 11) dX1_clashes_11 rfl 2 rfl ?_
      obtain ⟨g1, h⟩ := gd h
      obtain ⟨r2, hc3, h⟩ := ob h
      refine r_callV1 (pc := 12) (av := [vI x2]) (S := []) dX1_clashes_12 (kX1_isWhole hc3) g1 rfl mkX1_84 mwX1_isWhole rfl ⟨Nat.le_of_ble_eq_true rfl, Nat.le_of_ble_eq_true rfl⟩ (Nat.le_of_ble_eq_true rfl) ⟨Nat.le_refl _, Nat.le_refl _⟩ (fun b => b) ?_
      refine r_if_eq (pc := 15) (tgt := 34) dX1_clashes_15 rfl (fun c => ?_) (fun c => ?_)
      · have h := it h c
        refine r_iinc (pc := 34) (v := (x2 + (1 : Int32))) (L' := [(2, vI (x2 + (1 : Int32))), (0, vR (some t)), (1, vI x1)]) dX1_clashes_34 2 rfl (kc_inc_1 _) (by decide) rfl ?_
        refine r_goto (pc := 37) (tgt := 4) dX1_clashes_37 rfl ?_
        refine r_sub [1, 2, 0] rfl ?_
        exact ih _ _ h
      · have h := ie h c
        refine r_aload_n (pc := 18) dX1_clashes_18 rfl 0 rfl ?_
        refine r_iload_n (pc := 19) dX1_clashes_19 rfl 2 rfl ?_
        refine r_aload_n (pc := 20) dX1_clashes_20 rfl 0 rfl ?_
        refine r_iload_n (pc := 21) dX1_clashes_21 rfl 2 rfl ?_
        obtain ⟨r5, hc6, h⟩ := ob h
        refine r_callV1 (pc := 22) (av := [vI x2]) (S := [vI x2, vR (some t)]) dX1_clashes_22 (kX1_leastWith hc6) g1 rfl mkX1_87 mwX1_leastWith rfl ⟨Nat.le_of_ble_eq_true rfl, Nat.le_of_ble_eq_true rfl⟩ (Nat.le_of_ble_eq_true rfl) ⟨Nat.le_refl _, Nat.le_refl _⟩ (fun b => b) ?_
        obtain ⟨r7, hc8, h⟩ := ob h
        refine r_callV1 (pc := 25) (av := [vI x2, vI r5]) (S := []) dX1_clashes_25 (kX1_samePages hc8) g1 rfl mkX1_96 mwX1_samePages rfl ⟨Nat.le_of_ble_eq_true rfl, Nat.le_of_ble_eq_true rfl⟩ (Nat.le_of_ble_eq_true rfl) ⟨Nat.le_refl _, Nat.le_refl _⟩ (fun b => b) ?_
        refine r_ifne (pc := 28) (tgt := 34) dX1_clashes_28 rfl (fun c => ?_) (fun c => ?_)
        · have h := ie h c
          refine r_iinc (pc := 34) (v := (x2 + (1 : Int32))) (L' := [(2, vI (x2 + (1 : Int32))), (0, vR (some t)), (1, vI x1)]) dX1_clashes_34 2 rfl (kc_inc_1 _) (by decide) rfl ?_
          refine r_goto (pc := 37) (tgt := 4) dX1_clashes_37 rfl ?_
          refine r_sub [1, 2, 0] rfl ?_
          exact ih _ _ h
        · have h := it h c
          refine r_iinc (pc := 31) (v := (x1 + (1 : Int32))) (L' := [(1, vI (x1 + (1 : Int32))), (0, vR (some t)), (2, vI x2)]) dX1_clashes_31 1 rfl (kc_inc_1 _) (by decide) rfl ?_
          refine r_iinc (pc := 34) (v := (x2 + (1 : Int32))) (L' := [(2, vI (x2 + (1 : Int32))), (1, vI (x1 + (1 : Int32))), (0, vR (some t))]) dX1_clashes_34 2 rfl (kc_inc_1 _) (by decide) rfl ?_
          refine r_goto (pc := 37) (tgt := 4) dX1_clashes_37 rfl ?_
          refine r_sub [2, 1, 0] rfl ?_
          exact ih _ _ h
def fX1_clashes (σ : Shp) (I : Nat → Nat → Int32) (R : Nat → Nat → Option Nat) (t : Nat)  : Option ((Int32)) :=
  fX1_clashes_l4 σ I R t FUx (0 : Int32) (0 : Int32)
theorem kX1_clashes {G : Gx} {l : Launch} {σ : Shp} {I : Nat → Nat → Int32} {J : Nat → Nat → Int64} {D : Nat → Nat → UInt64} {R : Nat → Nat → Option Nat} {t : Nat}  {r9 : Int32} (h : fX1_clashes σ I R t = some r9) : Con G l yX1_clashes cX1_clashes 3 (some .int) 5 119 [vR (some t)] (σ, I, J, D, R) (σ, I, J, D, R) (some (vI r9)) := by
  unfold fX1_clashes at h
  refine Con.mk (by decide +kernel) rfl (Nat.le_of_ble_eq_true rfl) ?_
  show WX1_clashes G l σ (σ, I, J, D, R) (some (vI r9)) (σ, I, J, D, R) 0 _ []
  refine r_iconst (pc := 0) dX1_clashes_0 kc_iconst_0 ?_
  refine r_istore_n (pc := 1) (L' := [(1, vI (0 : Int32)), (0, vR (some t))]) dX1_clashes_1 rfl (by decide) rfl ?_
  refine r_iconst (pc := 2) dX1_clashes_2 kc_iconst_0 ?_
  refine r_istore_n (pc := 3) (L' := [(2, vI (0 : Int32)), (1, vI (0 : Int32)), (0, vR (some t))]) dX1_clashes_3 rfl (by decide) rfl ?_
  refine r_sub [2, 1, 0] rfl ?_
  exact wX1_clashes_l4 _ _ _ h
abbrev WX2_init (G : Gx) (l : Launch) (σ0 : Shp) (X1 : Stt) (rv : Option SV) : Stt → Nat → List (Nat × SV) → List SV → Prop := Wm G l yX2_init cX2_init 1 none (fun _ => True) (rmx 1 20 σ0 X1.1) σ0 (Qmx G σ0 X1 rv)
def fX2_init_b62  (σ : Shp) (R : Nat → Nat → Option Nat) (s0 : Nat) (s1 : Nat) : Option ((Shp) × (Nat → Nat → Option Nat)) :=
  if kdx σ s0 = 3 then
  let R24 := u2 R s0 6 (some s1)
  some (σ, R24)
  else none
theorem mX2_init_b62 {σ : Shp} {R : Nat → Nat → Option Nat} {σ9 : Shp} {R9 : Nat → Nat → Option Nat} {s0 : Nat} {s1 : Nat} (h : fX2_init_b62 σ R s0 s1 = some (σ9, R9)) : Lex σ σ9 := by
  unfold fX2_init_b62 at h
  replace h := (gd h).2
  cases h
  exact ⟨Nat.le_refl _, Nat.le_refl _⟩
theorem wX2_init_b62 {G : Gx} {l : Launch} {σ0 : Shp} {σ : Shp} {I : Nat → Nat → Int32} {J : Nat → Nat → Int64} {D : Nat → Nat → UInt64} {R : Nat → Nat → Option Nat} {σ9 : Shp} {R9 : Nat → Nat → Option Nat} {s0 : Nat} {s1 : Nat} (h : fX2_init_b62 σ R s0 s1 = some (σ9, R9)) : WX2_init G l σ0 (σ9, I, J, D, R9) none (σ, I, J, D, R) 62 [] [vR (some s1), vR (some s0)] := by
  unfold fX2_init_b62 at h
  obtain ⟨g23, h⟩ := gd h
  refine r_putRF (pc := 62) dX2_init_62 fwX2_33 rfl rfl g23 ?_
  cases h
  exact r_vret dX2_init_65
def fX2_init_b55  (t : Nat) (σ : Shp) (R : Nat → Nat → Option Nat) (s0 : Nat) (s1 : Nat) : Option ((Shp) × (Nat → Nat → Option Nat)) :=
  if kdx σ s0 = 3 then
  let R21 := u2 R s0 5 (some s1)
  let σ22 := mkA σ 21 (Int32.toNatClampNeg (3 : Int32))
  fX2_init_b62 σ22 R21 t (nxx σ + 4)
  else none
theorem mX2_init_b55 {σ : Shp} {R : Nat → Nat → Option Nat} {t : Nat} {σ9 : Shp} {R9 : Nat → Nat → Option Nat} {s0 : Nat} {s1 : Nat} (h : fX2_init_b55 t σ R s0 s1 = some (σ9, R9)) : Lex σ σ9 := by
  unfold fX2_init_b55 at h
  replace h := (gd h).2
  exact Lex_mkA (mX2_init_b62 h)
theorem wX2_init_b55 {G : Gx} {l : Launch} {σ0 : Shp} {σ : Shp} {I : Nat → Nat → Int32} {J : Nat → Nat → Int64} {D : Nat → Nat → UInt64} {R : Nat → Nat → Option Nat} {t : Nat} {σ9 : Shp} {R9 : Nat → Nat → Option Nat} {s0 : Nat} {s1 : Nat} (h : fX2_init_b55 t σ R s0 s1 = some (σ9, R9)) : WX2_init G l σ0 (σ9, I, J, D, R9) none (σ, I, J, D, R) 55 [(0, vR (some t))] [vR (some s1), vR (some s0)] := by
  unfold fX2_init_b55 at h
  obtain ⟨g20, h⟩ := gd h
  refine r_putRF (pc := 55) dX2_init_55 fwX2_30 rfl rfl g20 ?_
  refine r_aload_n (pc := 58) dX2_init_58 rfl 0 rfl ?_
  refine r_iconst (pc := 59) dX2_init_59 kc_iconst_3 ?_
  refine r_newa (pc := 60) (t := 21) (ti := 1) (ty := .long) dX2_init_60 rfl (by decide) ac21 (by decide) (by decide) (Nat.sub_le_sub_right (mX2_init_b62 h).1 _) (Nat.sub_le_sub_right (mX2_init_b62 h).2 _) ?_
  refine r_sub [] rfl ?_
  exact wX2_init_b62 h
def fX2_init_b48  (t : Nat) (σ : Shp) (R : Nat → Nat → Option Nat) (s0 : Nat) (s1 : Nat) : Option ((Shp) × (Nat → Nat → Option Nat)) :=
  if kdx σ s0 = 3 then
  let R18 := u2 R s0 4 (some s1)
  let σ19 := mkA σ 21 (Int32.toNatClampNeg (4 : Int32))
  fX2_init_b55 t σ19 R18 t (nxx σ + 4)
  else none
theorem mX2_init_b48 {σ : Shp} {R : Nat → Nat → Option Nat} {t : Nat} {σ9 : Shp} {R9 : Nat → Nat → Option Nat} {s0 : Nat} {s1 : Nat} (h : fX2_init_b48 t σ R s0 s1 = some (σ9, R9)) : Lex σ σ9 := by
  unfold fX2_init_b48 at h
  replace h := (gd h).2
  exact Lex_mkA (mX2_init_b55 h)
theorem wX2_init_b48 {G : Gx} {l : Launch} {σ0 : Shp} {σ : Shp} {I : Nat → Nat → Int32} {J : Nat → Nat → Int64} {D : Nat → Nat → UInt64} {R : Nat → Nat → Option Nat} {t : Nat} {σ9 : Shp} {R9 : Nat → Nat → Option Nat} {s0 : Nat} {s1 : Nat} (h : fX2_init_b48 t σ R s0 s1 = some (σ9, R9)) : WX2_init G l σ0 (σ9, I, J, D, R9) none (σ, I, J, D, R) 48 [(0, vR (some t))] [vR (some s1), vR (some s0)] := by
  unfold fX2_init_b48 at h
  obtain ⟨g17, h⟩ := gd h
  refine r_putRF (pc := 48) dX2_init_48 fwX2_26 rfl rfl g17 ?_
  refine r_aload_n (pc := 51) dX2_init_51 rfl 0 rfl ?_
  refine r_iconst (pc := 52) dX2_init_52 kc_iconst_4 ?_
  refine r_newa (pc := 53) (t := 21) (ti := 1) (ty := .long) dX2_init_53 rfl (by decide) ac21 (by decide) (by decide) (Nat.sub_le_sub_right (mX2_init_b55 h).1 _) (Nat.sub_le_sub_right (mX2_init_b55 h).2 _) ?_
  refine r_sub [0] rfl ?_
  exact wX2_init_b55 h
def fX2_init_b41  (t : Nat) (σ : Shp) (R : Nat → Nat → Option Nat) (s0 : Nat) (s1 : Nat) : Option ((Shp) × (Nat → Nat → Option Nat)) :=
  if kdx σ s0 = 3 then
  let R15 := u2 R s0 3 (some s1)
  let σ16 := mkA σ 21 (Int32.toNatClampNeg (4 : Int32))
  fX2_init_b48 t σ16 R15 t (nxx σ + 4)
  else none
theorem mX2_init_b41 {σ : Shp} {R : Nat → Nat → Option Nat} {t : Nat} {σ9 : Shp} {R9 : Nat → Nat → Option Nat} {s0 : Nat} {s1 : Nat} (h : fX2_init_b41 t σ R s0 s1 = some (σ9, R9)) : Lex σ σ9 := by
  unfold fX2_init_b41 at h
  replace h := (gd h).2
  exact Lex_mkA (mX2_init_b48 h)
theorem wX2_init_b41 {G : Gx} {l : Launch} {σ0 : Shp} {σ : Shp} {I : Nat → Nat → Int32} {J : Nat → Nat → Int64} {D : Nat → Nat → UInt64} {R : Nat → Nat → Option Nat} {t : Nat} {σ9 : Shp} {R9 : Nat → Nat → Option Nat} {s0 : Nat} {s1 : Nat} (h : fX2_init_b41 t σ R s0 s1 = some (σ9, R9)) : WX2_init G l σ0 (σ9, I, J, D, R9) none (σ, I, J, D, R) 41 [(0, vR (some t))] [vR (some s1), vR (some s0)] := by
  unfold fX2_init_b41 at h
  obtain ⟨g14, h⟩ := gd h
  refine r_putRF (pc := 41) dX2_init_41 fwX2_22 rfl rfl g14 ?_
  refine r_aload_n (pc := 44) dX2_init_44 rfl 0 rfl ?_
  refine r_iconst (pc := 45) dX2_init_45 kc_iconst_4 ?_
  refine r_newa (pc := 46) (t := 21) (ti := 1) (ty := .long) dX2_init_46 rfl (by decide) ac21 (by decide) (by decide) (Nat.sub_le_sub_right (mX2_init_b48 h).1 _) (Nat.sub_le_sub_right (mX2_init_b48 h).2 _) ?_
  refine r_sub [0] rfl ?_
  exact wX2_init_b48 h
def fX2_init_b34  (t : Nat) (σ : Shp) (R : Nat → Nat → Option Nat) (s0 : Nat) (s1 : Nat) : Option ((Shp) × (Nat → Nat → Option Nat)) :=
  if kdx σ s0 = 3 then
  let R12 := u2 R s0 2 (some s1)
  let σ13 := mkA σ 20 (Int32.toNatClampNeg (3 : Int32))
  fX2_init_b41 t σ13 R12 t (nxx σ + 4)
  else none
theorem mX2_init_b34 {σ : Shp} {R : Nat → Nat → Option Nat} {t : Nat} {σ9 : Shp} {R9 : Nat → Nat → Option Nat} {s0 : Nat} {s1 : Nat} (h : fX2_init_b34 t σ R s0 s1 = some (σ9, R9)) : Lex σ σ9 := by
  unfold fX2_init_b34 at h
  replace h := (gd h).2
  exact Lex_mkA (mX2_init_b41 h)
theorem wX2_init_b34 {G : Gx} {l : Launch} {σ0 : Shp} {σ : Shp} {I : Nat → Nat → Int32} {J : Nat → Nat → Int64} {D : Nat → Nat → UInt64} {R : Nat → Nat → Option Nat} {t : Nat} {σ9 : Shp} {R9 : Nat → Nat → Option Nat} {s0 : Nat} {s1 : Nat} (h : fX2_init_b34 t σ R s0 s1 = some (σ9, R9)) : WX2_init G l σ0 (σ9, I, J, D, R9) none (σ, I, J, D, R) 34 [(0, vR (some t))] [vR (some s1), vR (some s0)] := by
  unfold fX2_init_b34 at h
  obtain ⟨g11, h⟩ := gd h
  refine r_putRF (pc := 34) dX2_init_34 fwX2_19 rfl rfl g11 ?_
  refine r_aload_n (pc := 37) dX2_init_37 rfl 0 rfl ?_
  refine r_iconst (pc := 38) dX2_init_38 kc_iconst_3 ?_
  refine r_newa (pc := 39) (t := 20) (ti := 0) (ty := .int) dX2_init_39 rfl (by decide) ac20 (by decide) (by decide) (Nat.sub_le_sub_right (mX2_init_b41 h).1 _) (Nat.sub_le_sub_right (mX2_init_b41 h).2 _) ?_
  refine r_sub [0] rfl ?_
  exact wX2_init_b41 h
def fX2_init_b23  (t : Nat) (σ : Shp) (R : Nat → Nat → Option Nat) (s0 : Nat) (s1 : Nat) : Option ((Shp) × (Nat → Nat → Option Nat)) :=
  if kdx σ s0 = 3 then
  let R8 := u2 R s0 1 (some s1)
  let σ9 := mkM σ 29 (Int32.toNatClampNeg (3 : Int32)) (Int32.toNatClampNeg (8 : Int32))
  let R10 := mRr R8 (nxx σ + 4) (Int32.toNatClampNeg (3 : Int32))
  fX2_init_b34 t σ9 R10 t (nxx σ + 4)
  else none
theorem mX2_init_b23 {σ : Shp} {R : Nat → Nat → Option Nat} {t : Nat} {σ9 : Shp} {R9 : Nat → Nat → Option Nat} {s0 : Nat} {s1 : Nat} (h : fX2_init_b23 t σ R s0 s1 = some (σ9, R9)) : Lex σ σ9 := by
  unfold fX2_init_b23 at h
  replace h := (gd h).2
  exact Lex_mkM (mX2_init_b34 h)
theorem wX2_init_b23 {G : Gx} {l : Launch} {σ0 : Shp} {σ : Shp} {I : Nat → Nat → Int32} {J : Nat → Nat → Int64} {D : Nat → Nat → UInt64} {R : Nat → Nat → Option Nat} {t : Nat} {σ9 : Shp} {R9 : Nat → Nat → Option Nat} {s0 : Nat} {s1 : Nat} (h : fX2_init_b23 t σ R s0 s1 = some (σ9, R9)) : WX2_init G l σ0 (σ9, I, J, D, R9) none (σ, I, J, D, R) 23 [(0, vR (some t))] [vR (some s1), vR (some s0)] := by
  unfold fX2_init_b23 at h
  obtain ⟨g7, h⟩ := gd h
  refine r_putRF (pc := 23) dX2_init_23 fwX2_16 rfl rfl g7 ?_
  refine r_aload_n (pc := 26) dX2_init_26 rfl 0 rfl ?_
  refine r_iconst (pc := 27) dX2_init_27 kc_iconst_3 ?_
  refine r_bipush (pc := 28) dX2_init_28 kc_bipush_8 ?_
  refine r_multi (pc := 30) (t := 29) (ty := .long) dX2_init_30 (by decide) cnX2_14 ac21 (by decide) (by decide) (by decide) (by decide) (Nat.sub_le_sub_right (mX2_init_b34 h).1 _) (Nat.sub_le_sub_right (mX2_init_b34 h).2 _) ?_
  refine r_sub [0] rfl ?_
  exact wX2_init_b34 h
def fX2_init_b12  (t : Nat) (σ : Shp) (R : Nat → Nat → Option Nat) (s0 : Nat) (s1 : Nat) : Option ((Shp) × (Nat → Nat → Option Nat)) :=
  if kdx σ s0 = 3 then
  let R4 := u2 R s0 0 (some s1)
  let σ5 := mkM σ 29 (Int32.toNatClampNeg (3 : Int32)) (Int32.toNatClampNeg (8 : Int32))
  let R6 := mRr R4 (nxx σ + 4) (Int32.toNatClampNeg (3 : Int32))
  fX2_init_b23 t σ5 R6 t (nxx σ + 4)
  else none
theorem mX2_init_b12 {σ : Shp} {R : Nat → Nat → Option Nat} {t : Nat} {σ9 : Shp} {R9 : Nat → Nat → Option Nat} {s0 : Nat} {s1 : Nat} (h : fX2_init_b12 t σ R s0 s1 = some (σ9, R9)) : Lex σ σ9 := by
  unfold fX2_init_b12 at h
  replace h := (gd h).2
  exact Lex_mkM (mX2_init_b23 h)
theorem wX2_init_b12 {G : Gx} {l : Launch} {σ0 : Shp} {σ : Shp} {I : Nat → Nat → Int32} {J : Nat → Nat → Int64} {D : Nat → Nat → UInt64} {R : Nat → Nat → Option Nat} {t : Nat} {σ9 : Shp} {R9 : Nat → Nat → Option Nat} {s0 : Nat} {s1 : Nat} (h : fX2_init_b12 t σ R s0 s1 = some (σ9, R9)) : WX2_init G l σ0 (σ9, I, J, D, R9) none (σ, I, J, D, R) 12 [(0, vR (some t))] [vR (some s1), vR (some s0)] := by
  unfold fX2_init_b12 at h
  obtain ⟨g3, h⟩ := gd h
  refine r_putRF (pc := 12) dX2_init_12 fwX2_11 rfl rfl g3 ?_
  refine r_aload_n (pc := 15) dX2_init_15 rfl 0 rfl ?_
  refine r_iconst (pc := 16) dX2_init_16 kc_iconst_3 ?_
  refine r_bipush (pc := 17) dX2_init_17 kc_bipush_8 ?_
  refine r_multi (pc := 19) (t := 29) (ty := .long) dX2_init_19 (by decide) cnX2_14 ac21 (by decide) (by decide) (by decide) (by decide) (Nat.sub_le_sub_right (mX2_init_b23 h).1 _) (Nat.sub_le_sub_right (mX2_init_b23 h).2 _) ?_
  refine r_sub [0] rfl ?_
  exact wX2_init_b23 h
def fX2_init (σ : Shp) (R : Nat → Nat → Option Nat) (t : Nat)  : Option ((Shp) × (Nat → Nat → Option Nat)) :=
  let σ1 := mkM σ 28 (Int32.toNatClampNeg (6 : Int32)) (Int32.toNatClampNeg (3 : Int32))
  let R2 := mRr R (nxx σ + 4) (Int32.toNatClampNeg (6 : Int32))
  fX2_init_b12 t σ1 R2 t (nxx σ + 4)
theorem mX2_init {σ : Shp} {R : Nat → Nat → Option Nat} {t : Nat}  {σ9 : Shp} {R9 : Nat → Nat → Option Nat} (h : fX2_init σ R t = some (σ9, R9)) : Lex σ σ9 := by
  unfold fX2_init at h
  exact Lex_mkM (mX2_init_b12 h)
theorem kX2_init {G : Gx} {l : Launch} {σ : Shp} {I : Nat → Nat → Int32} {J : Nat → Nat → Int64} {D : Nat → Nat → UInt64} {R : Nat → Nat → Option Nat} {t : Nat}  {σ9 : Shp} {R9 : Nat → Nat → Option Nat} (h : fX2_init σ R t = some (σ9, R9)) : Con G l yX2_init cX2_init 1 none 1 20 [vR (some t)] (σ, I, J, D, R) (σ9, I, J, D, R9) none := by
  unfold fX2_init at h
  refine Con.mk (by decide +kernel) rfl (Nat.le_of_ble_eq_true rfl) ?_
  show WX2_init G l σ (σ9, I, J, D, R9) none (σ, I, J, D, R) 0 _ []
  refine r_aload_n (pc := 0) dX2_init_0 rfl 0 rfl ?_
  refine r_objInit (pc := 1) (S := []) dX2_init_1 obX2_1 obI obC (Nat.le_of_ble_eq_true rfl) (Nat.le_of_ble_eq_true rfl) (Nat.le_of_ble_eq_true rfl) ?_
  refine r_aload_n (pc := 4) dX2_init_4 rfl 0 rfl ?_
  refine r_bipush (pc := 5) dX2_init_5 kc_bipush_6 ?_
  refine r_iconst (pc := 7) dX2_init_7 kc_iconst_3 ?_
  refine r_multi (pc := 8) (t := 28) (ty := .int) dX2_init_8 (by decide) cnX2_9 ac20 (by decide) (by decide) (by decide) (by decide) (Nat.sub_le_sub_right (mX2_init_b12 h).1 _) (Nat.sub_le_sub_right (mX2_init_b12 h).2 _) ?_
  refine r_sub [0] rfl ?_
  exact wX2_init_b12 h
abbrev WX2_becomes (G : Gx) (l : Launch) (σ0 : Shp) (X1 : Stt) (rv : Option SV) : Stt → Nat → List (Nat × SV) → List SV → Prop := Wm G l yX2_becomes cX2_becomes 5 (some .int) (fun _ => True) (rmx 0 0 σ0 X1.1) σ0 (Qmx G σ0 X1 rv)
def fX2_becomes (σ : Shp) (I : Nat → Nat → Int32) (R : Nat → Nat → Option Nat) (t : Nat) (x1 : Int32) (x2 : Int32) (x3 : Int32) : Option ((Nat → Nat → Int32) × (Int32)) :=
  if kdx σ t = 3 then
  ((R t 0) : Option Nat).bind fun a2 =>
  if kdx σ a2 = 28 then
  if ¬ (x1 < 0 ∨ lnx σ a2 ≤ Int32.toNatClampNeg x1) then
  ((R a2 (Int32.toNatClampNeg x1)) : Option Nat).bind fun a5 =>
  if kdx σ a5 = 20 then
  if ¬ (x2 < 0 ∨ lnx σ a5 ≤ Int32.toNatClampNeg x2) then
  let v8 := (I a5 (Int32.toNatClampNeg x2))
  let I9 := u2 I a5 (Int32.toNatClampNeg x2) x3
  some (I9, v8)
  else none
  else none
  else none
  else none
  else none
theorem kX2_becomes {G : Gx} {l : Launch} {σ : Shp} {I : Nat → Nat → Int32} {J : Nat → Nat → Int64} {D : Nat → Nat → UInt64} {R : Nat → Nat → Option Nat} {t : Nat} {x1 : Int32} {x2 : Int32} {x3 : Int32} {I9 : Nat → Nat → Int32} {r9 : Int32} (h : fX2_becomes σ I R t x1 x2 x3 = some (I9, r9)) : Con G l yX2_becomes cX2_becomes 5 (some .int) 0 0 [vR (some t), vI x1, vI x2, vI x3] (σ, I, J, D, R) (σ, I9, J, D, R) (some (vI r9)) := by
  unfold fX2_becomes at h
  refine Con.mk (by decide +kernel) rfl (Nat.le_of_ble_eq_true rfl) ?_
  show WX2_becomes G l σ (σ, I9, J, D, R) (some (vI r9)) (σ, I, J, D, R) 0 _ []
  refine r_aload_n (pc := 0) dX2_becomes_0 rfl 0 rfl ?_
  obtain ⟨g1, h⟩ := gd h
  obtain ⟨a2, ha2, h⟩ := ob h
  refine r_getS (pc := 1) dX2_becomes_1 fgX2_11 rfl g1 ha2 ?_
  refine r_iload_n (pc := 4) dX2_becomes_4 rfl 1 rfl ?_
  obtain ⟨g3, h⟩ := gd h
  obtain ⟨g4, h⟩ := gd h
  refine r_aaload (pc := 5) dX2_becomes_5 g3 (by decide) g4 ?_
  obtain ⟨a5, ha5, h⟩ := ob h
  refine r_ref0 ha5 ?_
  refine r_iload_n (pc := 6) dX2_becomes_6 rfl 2 rfl ?_
  obtain ⟨g6, h⟩ := gd h
  obtain ⟨g7, h⟩ := gd h
  refine r_iaload (pc := 7) dX2_becomes_7 g6 g7 ?_
  refine r_istore (pc := 8) (L' := [(4, vI (I a5 (Int32.toNatClampNeg x2))), (0, vR (some t)), (1, vI x1), (2, vI x2), (3, vI x3)]) dX2_becomes_8 (by decide) rfl ?_
  refine r_aload_n (pc := 10) dX2_becomes_10 rfl 1 rfl ?_
  refine r_getS (pc := 11) dX2_becomes_11 fgX2_11 rfl g1 ha2 ?_
  refine r_iload_n (pc := 14) dX2_becomes_14 rfl 2 rfl ?_
  refine r_aaload (pc := 15) dX2_becomes_15 g3 (by decide) g4 ?_
  refine r_ref0 ha5 ?_
  refine r_iload_n (pc := 16) dX2_becomes_16 rfl 3 rfl ?_
  refine r_iload_n (pc := 17) dX2_becomes_17 rfl 4 rfl ?_
  refine r_iastore (pc := 18) dX2_becomes_18 g6 g7 ?_
  refine r_iload (pc := 19) dX2_becomes_19 0 rfl ?_
  cases h
  exact r_iret dX2_becomes_21
abbrev WX2_outcome (G : Gx) (l : Launch) (σ0 : Shp) (X1 : Stt) (rv : Option SV) : Stt → Nat → List (Nat × SV) → List SV → Prop := Wm G l yX2_outcome cX2_outcome 3 (some .long) (fun _ => True) (rmx 0 0 σ0 X1.1) σ0 (Qmx G σ0 X1 rv)
def fX2_outcome (σ : Shp) (I : Nat → Nat → Int32) (J : Nat → Nat → Int64) (R : Nat → Nat → Option Nat) (t : Nat) (x1 : Int32) (x2 : Int32) : Option ((Int64)) :=
  if x1 = (0 : Int32) then
    if x2 < 0 then
      some (0 : Int64)
    else
      if (4 : Int32) ≤ x2 then
        some (0 : Int64)
      else
        if kdx σ t = 3 then
        ((R t 4) : Option Nat).bind fun a15 =>
        if kdx σ a15 = 21 then
        if ¬ (x2 < 0 ∨ lnx σ a15 ≤ Int32.toNatClampNeg x2) then
        some (J a15 (Int32.toNatClampNeg x2))
        else none
        else none
        else none
  else
  if x1 = (1 : Int32) then
    if x2 < 0 then
      some (0 : Int64)
    else
      if (4 : Int32) ≤ x2 then
        some (0 : Int64)
      else
        if kdx σ t = 3 then
        ((R t 5) : Option Nat).bind fun a11 =>
        if kdx σ a11 = 21 then
        if ¬ (x2 < 0 ∨ lnx σ a11 ≤ Int32.toNatClampNeg x2) then
        some (J a11 (Int32.toNatClampNeg x2))
        else none
        else none
        else none
  else
  if x1 = (2 : Int32) then
    if x2 < 0 then
      some (0 : Int64)
    else
      if (3 : Int32) ≤ x2 then
        some (0 : Int64)
      else
        if kdx σ t = 3 then
        ((R t 6) : Option Nat).bind fun a7 =>
        if kdx σ a7 = 21 then
        if ¬ (x2 < 0 ∨ lnx σ a7 ≤ Int32.toNatClampNeg x2) then
        some (J a7 (Int32.toNatClampNeg x2))
        else none
        else none
        else none
  else
  if x1 = (3 : Int32) then
    if kdx σ t = 3 then
    some (Int32.toInt64 (I t 7))
    else none
  else
  some (0 : Int64)
theorem kX2_outcome {G : Gx} {l : Launch} {σ : Shp} {I : Nat → Nat → Int32} {J : Nat → Nat → Int64} {D : Nat → Nat → UInt64} {R : Nat → Nat → Option Nat} {t : Nat} {x1 : Int32} {x2 : Int32} {r9 : Int64} (h : fX2_outcome σ I J R t x1 x2 = some r9) : Con G l yX2_outcome cX2_outcome 3 (some .long) 0 0 [vR (some t), vI x1, vI x2] (σ, I, J, D, R) (σ, I, J, D, R) (some (vL r9)) := by
  unfold fX2_outcome at h
  refine Con.mk (by decide +kernel) rfl (Nat.le_of_ble_eq_true rfl) ?_
  show WX2_outcome G l σ (σ, I, J, D, R) (some (vL r9)) (σ, I, J, D, R) 0 _ []
  refine r_iload_n (pc := 0) dX2_outcome_0 rfl 1 rfl ?_
  rcases itc h with ⟨c1, h⟩ | ⟨c1, h⟩
  · refine r_tsIn (x := x1) (pc := 1) (tgt := 32) dX2_outcome_1 (by rw [c1]; decide) (by rw [c1]; decide) (by rw [c1]; rfl) rfl ?_
    refine r_iload_n (pc := 32) dX2_outcome_32 rfl 2 rfl ?_
    refine r_if_lt (pc := 33) (tgt := 50) dX2_outcome_33 rfl (fun c => ?_) (fun c => ?_)
    · have h := it h c
      refine r_lconst (pc := 50) dX2_outcome_50 kc_lconst_0 ?_
      cases h
      exact r_lret dX2_outcome_51
    · have h := ie h c
      refine r_iload_n (pc := 36) dX2_outcome_36 rfl 2 rfl ?_
      refine r_iconst (pc := 37) dX2_outcome_37 kc_iconst_4 ?_
      refine r_icmp_ge (pc := 38) (tgt := 50) dX2_outcome_38 rfl (fun c => ?_) (fun c => ?_)
      · have h := it h c
        refine r_lconst (pc := 50) dX2_outcome_50 kc_lconst_0 ?_
        cases h
        exact r_lret dX2_outcome_51
      · have h := ie h c
        refine r_aload_n (pc := 41) dX2_outcome_41 rfl 0 rfl ?_
        obtain ⟨g14, h⟩ := gd h
        obtain ⟨a15, ha15, h⟩ := ob h
        refine r_getS (pc := 42) dX2_outcome_42 fgX2_26 rfl g14 ha15 ?_
        refine r_iload_n (pc := 45) dX2_outcome_45 rfl 2 rfl ?_
        obtain ⟨g16, h⟩ := gd h
        obtain ⟨g17, h⟩ := gd h
        refine r_laload (pc := 46) dX2_outcome_46 g16 g17 ?_
        refine r_goto (pc := 47) (tgt := 51) dX2_outcome_47 rfl ?_
        cases h
        exact r_lret dX2_outcome_51
  · rcases itc h with ⟨c2, h⟩ | ⟨c2, h⟩
    · refine r_tsIn (x := x1) (pc := 1) (tgt := 52) dX2_outcome_1 (by rw [c2]; decide) (by rw [c2]; decide) (by rw [c2]; rfl) rfl ?_
      refine r_iload_n (pc := 52) dX2_outcome_52 rfl 2 rfl ?_
      refine r_if_lt (pc := 53) (tgt := 70) dX2_outcome_53 rfl (fun c => ?_) (fun c => ?_)
      · have h := it h c
        refine r_lconst (pc := 70) dX2_outcome_70 kc_lconst_0 ?_
        cases h
        exact r_lret dX2_outcome_71
      · have h := ie h c
        refine r_iload_n (pc := 56) dX2_outcome_56 rfl 2 rfl ?_
        refine r_iconst (pc := 57) dX2_outcome_57 kc_iconst_4 ?_
        refine r_icmp_ge (pc := 58) (tgt := 70) dX2_outcome_58 rfl (fun c => ?_) (fun c => ?_)
        · have h := it h c
          refine r_lconst (pc := 70) dX2_outcome_70 kc_lconst_0 ?_
          cases h
          exact r_lret dX2_outcome_71
        · have h := ie h c
          refine r_aload_n (pc := 61) dX2_outcome_61 rfl 0 rfl ?_
          obtain ⟨g10, h⟩ := gd h
          obtain ⟨a11, ha11, h⟩ := ob h
          refine r_getS (pc := 62) dX2_outcome_62 fgX2_30 rfl g10 ha11 ?_
          refine r_iload_n (pc := 65) dX2_outcome_65 rfl 2 rfl ?_
          obtain ⟨g12, h⟩ := gd h
          obtain ⟨g13, h⟩ := gd h
          refine r_laload (pc := 66) dX2_outcome_66 g12 g13 ?_
          refine r_goto (pc := 67) (tgt := 71) dX2_outcome_67 rfl ?_
          cases h
          exact r_lret dX2_outcome_71
    · rcases itc h with ⟨c3, h⟩ | ⟨c3, h⟩
      · refine r_tsIn (x := x1) (pc := 1) (tgt := 72) dX2_outcome_1 (by rw [c3]; decide) (by rw [c3]; decide) (by rw [c3]; rfl) rfl ?_
        refine r_iload_n (pc := 72) dX2_outcome_72 rfl 2 rfl ?_
        refine r_if_lt (pc := 73) (tgt := 90) dX2_outcome_73 rfl (fun c => ?_) (fun c => ?_)
        · have h := it h c
          refine r_lconst (pc := 90) dX2_outcome_90 kc_lconst_0 ?_
          cases h
          exact r_lret dX2_outcome_91
        · have h := ie h c
          refine r_iload_n (pc := 76) dX2_outcome_76 rfl 2 rfl ?_
          refine r_iconst (pc := 77) dX2_outcome_77 kc_iconst_3 ?_
          refine r_icmp_ge (pc := 78) (tgt := 90) dX2_outcome_78 rfl (fun c => ?_) (fun c => ?_)
          · have h := it h c
            refine r_lconst (pc := 90) dX2_outcome_90 kc_lconst_0 ?_
            cases h
            exact r_lret dX2_outcome_91
          · have h := ie h c
            refine r_aload_n (pc := 81) dX2_outcome_81 rfl 0 rfl ?_
            obtain ⟨g6, h⟩ := gd h
            obtain ⟨a7, ha7, h⟩ := ob h
            refine r_getS (pc := 82) dX2_outcome_82 fgX2_33 rfl g6 ha7 ?_
            refine r_iload_n (pc := 85) dX2_outcome_85 rfl 2 rfl ?_
            obtain ⟨g8, h⟩ := gd h
            obtain ⟨g9, h⟩ := gd h
            refine r_laload (pc := 86) dX2_outcome_86 g8 g9 ?_
            refine r_goto (pc := 87) (tgt := 91) dX2_outcome_87 rfl ?_
            cases h
            exact r_lret dX2_outcome_91
      · rcases itc h with ⟨c4, h⟩ | ⟨c4, h⟩
        · refine r_tsIn (x := x1) (pc := 1) (tgt := 92) dX2_outcome_1 (by rw [c4]; decide) (by rw [c4]; decide) (by rw [c4]; rfl) rfl ?_
          refine r_aload_n (pc := 92) dX2_outcome_92 rfl 0 rfl ?_
          obtain ⟨g5, h⟩ := gd h
          refine r_getI (pc := 93) dX2_outcome_93 fgX2_36 rfl g5 ?_
          refine r_i2l (pc := 96) dX2_outcome_96 ?_
          cases h
          exact r_lret dX2_outcome_97
        · refine r_tsOut (x := x1) (pc := 1) (tgt := 98) dX2_outcome_1 (by have ec1 := i32n c1 (k := 0) rfl; have ec2 := i32n c2 (k := 1) rfl; have ec3 := i32n c3 (k := 2) rfl; have ec4 := i32n c4 (k := 3) rfl; omega) rfl ?_
          refine r_lconst (pc := 98) dX2_outcome_98 kc_lconst_0 ?_
          cases h
          exact r_lret dX2_outcome_99
abbrev WX2_clearOutcome (G : Gx) (l : Launch) (σ0 : Shp) (X1 : Stt) (rv : Option SV) : Stt → Nat → List (Nat × SV) → List SV → Prop := Wm G l yX2_clearOutcome cX2_clearOutcome 2 none (fun _ => True) (rmx 0 0 σ0 X1.1) σ0 (Qmx G σ0 X1 rv)
def fX2_clearOutcome_l34  (σ : Shp) (R : Nat → Nat → Option Nat) (t : Nat) : Nat → (Nat → Nat → Int32) → (Nat → Nat → Int64) → (Int32) → Option ((Nat → Nat → Int32) × (Nat → Nat → Int64))
  | 0, _, _, _ => none
  | n + 1, I, J, x1 =>
    if (3 : Int32) ≤ x1 then
      some (I, J)
    else
      if kdx σ t = 3 then
      ((R t 6) : Option Nat).bind fun a4 =>
      if kdx σ a4 = 21 then
      if ¬ (x1 < 0 ∨ lnx σ a4 ≤ Int32.toNatClampNeg x1) then
      let J7 := u2 J a4 (Int32.toNatClampNeg x1) (0 : Int64)
      let v8 := x1 + (1 : Int32)
      fX2_clearOutcome_l34 σ R t n I J7 v8
      else none
      else none
      else none
theorem wX2_clearOutcome_l34 {G : Gx} {l : Launch} {σ : Shp} {D : Nat → Nat → UInt64} {R : Nat → Nat → Option Nat} {t : Nat} {I9 : Nat → Nat → Int32} {J9 : Nat → Nat → Int64} : ∀ (n : Nat) (I : Nat → Nat → Int32) (J : Nat → Nat → Int64) (x1 : Int32), fX2_clearOutcome_l34 σ R t n I J x1 = some (I9, J9) → WX2_clearOutcome G l σ (σ, I9, J9, D, R) none (σ, I, J, D, R) 34 [(0, vR (some t)), (1, vI x1)] [] := by
  intro n
  induction n with
  | zero =>
    intro I J x1 h
    have h : none = some _ := h
    cases h
  | succ n ih =>
    intro I J x1 h
    rw [fX2_clearOutcome_l34] at h
    refine r_iload_n (pc := 34) dX2_clearOutcome_34 rfl 1 rfl ?_
    refine r_iconst (pc := 35) dX2_clearOutcome_35 kc_iconst_3 ?_
    refine r_icmp_ge (pc := 36) (tgt := 52) dX2_clearOutcome_36 rfl (fun c => ?_) (fun c => ?_)
    · have h := it h c
      cases h
      exact r_vret dX2_clearOutcome_52
    · have h := ie h c
      refine r_aload_n (pc := 39) dX2_clearOutcome_39 rfl 0 rfl ?_
      obtain ⟨g3, h⟩ := gd h
      obtain ⟨a4, ha4, h⟩ := ob h
      refine r_getS (pc := 40) dX2_clearOutcome_40 fgX2_33 rfl g3 ha4 ?_
      refine r_iload_n (pc := 43) dX2_clearOutcome_43 rfl 1 rfl ?_
      refine r_lconst (pc := 44) dX2_clearOutcome_44 kc_lconst_0 ?_
      obtain ⟨g5, h⟩ := gd h
      obtain ⟨g6, h⟩ := gd h
      refine r_lastore (pc := 45) dX2_clearOutcome_45 g5 g6 ?_
      refine r_iinc (pc := 46) (v := (x1 + (1 : Int32))) (L' := [(1, vI (x1 + (1 : Int32))), (0, vR (some t))]) dX2_clearOutcome_46 1 rfl (kc_inc_1 _) (by decide) rfl ?_
      refine r_goto (pc := 49) (tgt := 34) dX2_clearOutcome_49 rfl ?_
      refine r_sub [1, 0] rfl ?_
      exact ih _ _ _ h
def fX2_clearOutcome_l7  (σ : Shp) (R : Nat → Nat → Option Nat) (t : Nat) : Nat → (Nat → Nat → Int32) → (Nat → Nat → Int64) → (Int32) → Option ((Nat → Nat → Int32) × (Nat → Nat → Int64))
  | 0, _, _, _ => none
  | n + 1, I, J, x1 =>
    if (4 : Int32) ≤ x1 then
      fX2_clearOutcome_l34 σ R t FUx I J (0 : Int32)
    else
      if kdx σ t = 3 then
      ((R t 4) : Option Nat).bind fun a10 =>
      if kdx σ a10 = 21 then
      if ¬ (x1 < 0 ∨ lnx σ a10 ≤ Int32.toNatClampNeg x1) then
      let J13 := u2 J a10 (Int32.toNatClampNeg x1) (0 : Int64)
      ((R t 5) : Option Nat).bind fun a14 =>
      if kdx σ a14 = 21 then
      if ¬ (x1 < 0 ∨ lnx σ a14 ≤ Int32.toNatClampNeg x1) then
      let J17 := u2 J13 a14 (Int32.toNatClampNeg x1) (0 : Int64)
      let v18 := x1 + (1 : Int32)
      fX2_clearOutcome_l7 σ R t n I J17 v18
      else none
      else none
      else none
      else none
      else none
theorem wX2_clearOutcome_l7 {G : Gx} {l : Launch} {σ : Shp} {D : Nat → Nat → UInt64} {R : Nat → Nat → Option Nat} {t : Nat} {I9 : Nat → Nat → Int32} {J9 : Nat → Nat → Int64} : ∀ (n : Nat) (I : Nat → Nat → Int32) (J : Nat → Nat → Int64) (x1 : Int32), fX2_clearOutcome_l7 σ R t n I J x1 = some (I9, J9) → WX2_clearOutcome G l σ (σ, I9, J9, D, R) none (σ, I, J, D, R) 7 [(0, vR (some t)), (1, vI x1)] [] := by
  intro n
  induction n with
  | zero =>
    intro I J x1 h
    have h : none = some _ := h
    cases h
  | succ n ih =>
    intro I J x1 h
    rw [fX2_clearOutcome_l7] at h
    refine r_iload_n (pc := 7) dX2_clearOutcome_7 rfl 1 rfl ?_
    refine r_iconst (pc := 8) dX2_clearOutcome_8 kc_iconst_4 ?_
    refine r_icmp_ge (pc := 9) (tgt := 32) dX2_clearOutcome_9 rfl (fun c => ?_) (fun c => ?_)
    · have h := it h c
      refine r_iconst (pc := 32) dX2_clearOutcome_32 kc_iconst_0 ?_
      refine r_istore_n (pc := 33) (L' := [(1, vI (0 : Int32)), (0, vR (some t))]) dX2_clearOutcome_33 rfl (by decide) rfl ?_
      refine r_sub [1, 0] rfl ?_
      exact wX2_clearOutcome_l34 _ _ _ _ h
    · have h := ie h c
      refine r_aload_n (pc := 12) dX2_clearOutcome_12 rfl 0 rfl ?_
      obtain ⟨g9, h⟩ := gd h
      obtain ⟨a10, ha10, h⟩ := ob h
      refine r_getS (pc := 13) dX2_clearOutcome_13 fgX2_26 rfl g9 ha10 ?_
      refine r_iload_n (pc := 16) dX2_clearOutcome_16 rfl 1 rfl ?_
      refine r_lconst (pc := 17) dX2_clearOutcome_17 kc_lconst_0 ?_
      obtain ⟨g11, h⟩ := gd h
      obtain ⟨g12, h⟩ := gd h
      refine r_lastore (pc := 18) dX2_clearOutcome_18 g11 g12 ?_
      refine r_aload_n (pc := 19) dX2_clearOutcome_19 rfl 0 rfl ?_
      obtain ⟨a14, ha14, h⟩ := ob h
      refine r_getS (pc := 20) dX2_clearOutcome_20 fgX2_30 rfl g9 ha14 ?_
      refine r_iload_n (pc := 23) dX2_clearOutcome_23 rfl 1 rfl ?_
      refine r_lconst (pc := 24) dX2_clearOutcome_24 kc_lconst_0 ?_
      obtain ⟨g15, h⟩ := gd h
      obtain ⟨g16, h⟩ := gd h
      refine r_lastore (pc := 25) dX2_clearOutcome_25 g15 g16 ?_
      refine r_iinc (pc := 26) (v := (x1 + (1 : Int32))) (L' := [(1, vI (x1 + (1 : Int32))), (0, vR (some t))]) dX2_clearOutcome_26 1 rfl (kc_inc_1 _) (by decide) rfl ?_
      refine r_goto (pc := 29) (tgt := 7) dX2_clearOutcome_29 rfl ?_
      refine r_sub [1, 0] rfl ?_
      exact ih _ _ _ h
def fX2_clearOutcome (σ : Shp) (I : Nat → Nat → Int32) (J : Nat → Nat → Int64) (R : Nat → Nat → Option Nat) (t : Nat)  : Option ((Nat → Nat → Int32) × (Nat → Nat → Int64)) :=
  if kdx σ t = 3 then
  let I2 := u2 I t 7 (0 : Int32)
  fX2_clearOutcome_l7 σ R t FUx I2 J (0 : Int32)
  else none
theorem kX2_clearOutcome {G : Gx} {l : Launch} {σ : Shp} {I : Nat → Nat → Int32} {J : Nat → Nat → Int64} {D : Nat → Nat → UInt64} {R : Nat → Nat → Option Nat} {t : Nat}  {I9 : Nat → Nat → Int32} {J9 : Nat → Nat → Int64} (h : fX2_clearOutcome σ I J R t = some (I9, J9)) : Con G l yX2_clearOutcome cX2_clearOutcome 2 none 0 0 [vR (some t)] (σ, I, J, D, R) (σ, I9, J9, D, R) none := by
  unfold fX2_clearOutcome at h
  refine Con.mk (by decide +kernel) rfl (Nat.le_of_ble_eq_true rfl) ?_
  show WX2_clearOutcome G l σ (σ, I9, J9, D, R) none (σ, I, J, D, R) 0 _ []
  refine r_aload_n (pc := 0) dX2_clearOutcome_0 rfl 0 rfl ?_
  refine r_iconst (pc := 1) dX2_clearOutcome_1 kc_iconst_0 ?_
  obtain ⟨g1, h⟩ := gd h
  refine r_putI (pc := 2) dX2_clearOutcome_2 fwX2_36 rfl g1 ?_
  refine r_iconst (pc := 5) dX2_clearOutcome_5 kc_iconst_0 ?_
  refine r_istore_n (pc := 6) (L' := [(1, vI (0 : Int32)), (0, vR (some t))]) dX2_clearOutcome_6 rfl (by decide) rfl ?_
  refine r_sub [1, 0] rfl ?_
  exact wX2_clearOutcome_l7 _ _ _ _ h
abbrev WX2_fillRows (G : Gx) (l : Launch) (σ0 : Shp) (X1 : Stt) (rv : Option SV) : Stt → Nat → List (Nat × SV) → List SV → Prop := Wm G l yX2_fillRows cX2_fillRows 3 none (fun _ => True) (rmx 0 0 σ0 X1.1) σ0 (Qmx G σ0 X1 rv)
def fX2_fillRows_l9 (q2 : (Nat → Nat → Int64) → (Int32) → (Option ((Nat → Nat → Int64)))) (σ : Shp) (I : Nat → Nat → Int32) (R : Nat → Nat → Option Nat) (t : Nat) : Nat → (Nat → Nat → Int64) → (Int32) → (Int32) → Option ((Nat → Nat → Int64))
  | 0, _, _, _ => none
  | n + 1, J, x1, x2 =>
    if (8 : Int32) ≤ x2 then
      if kdx σ t = 3 then
      ((R t 1) : Option Nat).bind fun a2 =>
      if kdx σ a2 = 29 then
      if ¬ (x1 < 0 ∨ lnx σ a2 ≤ Int32.toNatClampNeg x1) then
      ((R a2 (Int32.toNatClampNeg x1)) : Option Nat).bind fun a5 =>
      ((R t 0) : Option Nat).bind fun a6 =>
      if kdx σ a6 = 28 then
      if ¬ ((4 : Int32) < 0 ∨ lnx σ a6 ≤ Int32.toNatClampNeg (4 : Int32)) then
      ((R a6 (Int32.toNatClampNeg (4 : Int32))) : Option Nat).bind fun a9 =>
      if kdx σ a9 = 20 then
      if ¬ (x1 < 0 ∨ lnx σ a9 ≤ Int32.toNatClampNeg x1) then
      if ¬ ((5 : Int32) < 0 ∨ lnx σ a6 ≤ Int32.toNatClampNeg (5 : Int32)) then
      ((R a6 (Int32.toNatClampNeg (5 : Int32))) : Option Nat).bind fun a13 =>
      if kdx σ a13 = 20 then
      if ¬ (x1 < 0 ∨ lnx σ a13 ≤ Int32.toNatClampNeg x1) then
      if kdx σ a5 = 21 then
      if ¬ ((4 : Int32) < 0 ∨ lnx σ a5 ≤ Int32.toNatClampNeg (4 : Int32)) then
      let J18 := u2 J a5 (Int32.toNatClampNeg (4 : Int32)) (Int32.toInt64 ((I a9 (Int32.toNatClampNeg x1)) - (I a13 (Int32.toNatClampNeg x1))))
      let v19 := x1 + (1 : Int32)
      q2 J18 v19
      else none
      else none
      else none
      else none
      else none
      else none
      else none
      else none
      else none
      else none
      else none
      else none
    else
      if kdx σ t = 3 then
      ((R t 1) : Option Nat).bind fun a21 =>
      if kdx σ a21 = 29 then
      if ¬ (x1 < 0 ∨ lnx σ a21 ≤ Int32.toNatClampNeg x1) then
      ((R a21 (Int32.toNatClampNeg x1)) : Option Nat).bind fun a24 =>
      if (4 : Int32) ≤ x2 then
        if x2 = ((5 : Int32) + x1) then
          if kdx σ a24 = 21 then
          if ¬ (x2 < 0 ∨ lnx σ a24 ≤ Int32.toNatClampNeg x2) then
          let J38 := u2 J a24 (Int32.toNatClampNeg x2) (1 : Int64)
          ((R t 2) : Option Nat).bind fun a39 =>
          if kdx σ a39 = 29 then
          if ¬ (x1 < 0 ∨ lnx σ a39 ≤ Int32.toNatClampNeg x1) then
          ((R a39 (Int32.toNatClampNeg x1)) : Option Nat).bind fun a42 =>
          if kdx σ a42 = 21 then
          if ¬ (x2 < 0 ∨ lnx σ a42 ≤ Int32.toNatClampNeg x2) then
          let J45 := u2 J38 a42 (Int32.toNatClampNeg x2) (1 : Int64)
          let v46 := x2 + (1 : Int32)
          fX2_fillRows_l9 q2 σ I R t n J45 x1 v46
          else none
          else none
          else none
          else none
          else none
          else none
        else
          if kdx σ a24 = 21 then
          if ¬ (x2 < 0 ∨ lnx σ a24 ≤ Int32.toNatClampNeg x2) then
          let J27 := u2 J a24 (Int32.toNatClampNeg x2) (0 : Int64)
          ((R t 2) : Option Nat).bind fun a28 =>
          if kdx σ a28 = 29 then
          if ¬ (x1 < 0 ∨ lnx σ a28 ≤ Int32.toNatClampNeg x1) then
          ((R a28 (Int32.toNatClampNeg x1)) : Option Nat).bind fun a31 =>
          if kdx σ a31 = 21 then
          if ¬ (x2 < 0 ∨ lnx σ a31 ≤ Int32.toNatClampNeg x2) then
          let J34 := u2 J27 a31 (Int32.toNatClampNeg x2) (1 : Int64)
          let v35 := x2 + (1 : Int32)
          fX2_fillRows_l9 q2 σ I R t n J34 x1 v35
          else none
          else none
          else none
          else none
          else none
          else none
      else
        ((R t 0) : Option Nat).bind fun a47 =>
        if kdx σ a47 = 28 then
        if ¬ (x2 < 0 ∨ lnx σ a47 ≤ Int32.toNatClampNeg x2) then
        ((R a47 (Int32.toNatClampNeg x2)) : Option Nat).bind fun a50 =>
        if kdx σ a50 = 20 then
        if ¬ (x1 < 0 ∨ lnx σ a50 ≤ Int32.toNatClampNeg x1) then
        if kdx σ a24 = 21 then
        if ¬ (x2 < 0 ∨ lnx σ a24 ≤ Int32.toNatClampNeg x2) then
        let J55 := u2 J a24 (Int32.toNatClampNeg x2) (Int32.toInt64 (I a50 (Int32.toNatClampNeg x1)))
        ((R t 2) : Option Nat).bind fun a56 =>
        if kdx σ a56 = 29 then
        if ¬ (x1 < 0 ∨ lnx σ a56 ≤ Int32.toNatClampNeg x1) then
        ((R a56 (Int32.toNatClampNeg x1)) : Option Nat).bind fun a59 =>
        if kdx σ a59 = 21 then
        if ¬ (x2 < 0 ∨ lnx σ a59 ≤ Int32.toNatClampNeg x2) then
        let J62 := u2 J55 a59 (Int32.toNatClampNeg x2) (1 : Int64)
        let v63 := x2 + (1 : Int32)
        fX2_fillRows_l9 q2 σ I R t n J62 x1 v63
        else none
        else none
        else none
        else none
        else none
        else none
        else none
        else none
        else none
        else none
      else none
      else none
      else none
theorem wX2_fillRows_l9 {G : Gx} {l : Launch} {σ : Shp} {I : Nat → Nat → Int32} {D : Nat → Nat → UInt64} {R : Nat → Nat → Option Nat} {t : Nat} {J9 : Nat → Nat → Int64} {q2 : (Nat → Nat → Int64) → (Int32) → (Option ((Nat → Nat → Int64)))} (hq2 : ∀ (J : Nat → Nat → Int64) (x1 : Int32), q2 J x1 = some J9 → WX2_fillRows G l σ (σ, I, J9, D, R) none (σ, I, J, D, R) 2 [(0, vR (some t)), (1, vI x1)] []) : ∀ (n : Nat) (J : Nat → Nat → Int64) (x1 : Int32) (x2 : Int32), fX2_fillRows_l9 q2 σ I R t n J x1 x2 = some J9 → WX2_fillRows G l σ (σ, I, J9, D, R) none (σ, I, J, D, R) 9 [(0, vR (some t)), (1, vI x1), (2, vI x2)] [] := by
  intro n
  induction n with
  | zero =>
    intro J x1 x2 h
    have h : none = some _ := h
    cases h
  | succ n ih =>
    intro J x1 x2 h
    rw [fX2_fillRows_l9] at h
    refine r_iload_n (pc := 9) dX2_fillRows_9 rfl 2 rfl ?_
    refine r_bipush (pc := 10) dX2_fillRows_10 kc_bipush_8 ?_
    refine r_icmp_ge (pc := 12) (tgt := 67) dX2_fillRows_12 rfl (fun c => ?_) (fun c => ?_)
    · have h := it h c
      refine r_aload_n (pc := 67) dX2_fillRows_67 rfl 0 rfl ?_
      obtain ⟨g1, h⟩ := gd h
      obtain ⟨a2, ha2, h⟩ := ob h
      refine r_getS (pc := 68) dX2_fillRows_68 fgX2_16 rfl g1 ha2 ?_
      refine r_iload_n (pc := 71) dX2_fillRows_71 rfl 1 rfl ?_
      obtain ⟨g3, h⟩ := gd h
      obtain ⟨g4, h⟩ := gd h
      refine r_aaload (pc := 72) dX2_fillRows_72 g3 (by decide) g4 ?_
      obtain ⟨a5, ha5, h⟩ := ob h
      refine r_ref0 ha5 ?_
      refine r_iconst (pc := 73) dX2_fillRows_73 kc_iconst_4 ?_
      refine r_aload_n (pc := 74) dX2_fillRows_74 rfl 0 rfl ?_
      obtain ⟨a6, ha6, h⟩ := ob h
      refine r_getS (pc := 75) dX2_fillRows_75 fgX2_11 rfl g1 ha6 ?_
      refine r_iconst (pc := 78) dX2_fillRows_78 kc_iconst_4 ?_
      obtain ⟨g7, h⟩ := gd h
      obtain ⟨g8, h⟩ := gd h
      refine r_aaload (pc := 79) dX2_fillRows_79 g7 (by decide) g8 ?_
      obtain ⟨a9, ha9, h⟩ := ob h
      refine r_ref0 ha9 ?_
      refine r_iload_n (pc := 80) dX2_fillRows_80 rfl 1 rfl ?_
      obtain ⟨g10, h⟩ := gd h
      obtain ⟨g11, h⟩ := gd h
      refine r_iaload (pc := 81) dX2_fillRows_81 g10 g11 ?_
      refine r_aload_n (pc := 82) dX2_fillRows_82 rfl 0 rfl ?_
      refine r_getS (pc := 83) dX2_fillRows_83 fgX2_11 rfl g1 ha6 ?_
      refine r_iconst (pc := 86) dX2_fillRows_86 kc_iconst_5 ?_
      obtain ⟨g12, h⟩ := gd h
      refine r_aaload (pc := 87) dX2_fillRows_87 g7 (by decide) g12 ?_
      obtain ⟨a13, ha13, h⟩ := ob h
      refine r_ref0 ha13 ?_
      refine r_iload_n (pc := 88) dX2_fillRows_88 rfl 1 rfl ?_
      obtain ⟨g14, h⟩ := gd h
      obtain ⟨g15, h⟩ := gd h
      refine r_iaload (pc := 89) dX2_fillRows_89 g14 g15 ?_
      refine r_isub (pc := 90) dX2_fillRows_90 ?_
      refine r_i2l (pc := 91) dX2_fillRows_91 ?_
      obtain ⟨g16, h⟩ := gd h
      obtain ⟨g17, h⟩ := gd h
      refine r_lastore (pc := 92) dX2_fillRows_92 g16 g17 ?_
      refine r_iinc (pc := 93) (v := (x1 + (1 : Int32))) (L' := [(1, vI (x1 + (1 : Int32))), (0, vR (some t)), (2, vI x2)]) dX2_fillRows_93 1 rfl (kc_inc_1 _) (by decide) rfl ?_
      refine r_goto (pc := 96) (tgt := 2) dX2_fillRows_96 rfl ?_
      refine r_sub [1, 0] rfl ?_
      exact hq2 _ _ h
    · have h := ie h c
      refine r_aload_n (pc := 15) dX2_fillRows_15 rfl 0 rfl ?_
      obtain ⟨g20, h⟩ := gd h
      obtain ⟨a21, ha21, h⟩ := ob h
      refine r_getS (pc := 16) dX2_fillRows_16 fgX2_16 rfl g20 ha21 ?_
      refine r_iload_n (pc := 19) dX2_fillRows_19 rfl 1 rfl ?_
      obtain ⟨g22, h⟩ := gd h
      obtain ⟨g23, h⟩ := gd h
      refine r_aaload (pc := 20) dX2_fillRows_20 g22 (by decide) g23 ?_
      obtain ⟨a24, ha24, h⟩ := ob h
      refine r_ref0 ha24 ?_
      refine r_iload_n (pc := 21) dX2_fillRows_21 rfl 2 rfl ?_
      refine r_iload_n (pc := 22) dX2_fillRows_22 rfl 2 rfl ?_
      refine r_iconst (pc := 23) dX2_fillRows_23 kc_iconst_4 ?_
      refine r_icmp_ge (pc := 24) (tgt := 39) dX2_fillRows_24 rfl (fun c => ?_) (fun c => ?_)
      · have h := it h c
        refine r_iload_n (pc := 39) dX2_fillRows_39 rfl 2 rfl ?_
        refine r_iconst (pc := 40) dX2_fillRows_40 kc_iconst_5 ?_
        refine r_iload_n (pc := 41) dX2_fillRows_41 rfl 1 rfl ?_
        refine r_iadd (pc := 42) dX2_fillRows_42 ?_
        refine r_icmp_ne (pc := 43) (tgt := 50) dX2_fillRows_43 rfl (fun c => ?_) (fun c => ?_)
        · have h := ie h c
          refine r_lconst (pc := 50) dX2_fillRows_50 kc_lconst_0 ?_
          obtain ⟨g25, h⟩ := gd h
          obtain ⟨g26, h⟩ := gd h
          refine r_lastore (pc := 51) dX2_fillRows_51 g25 g26 ?_
          refine r_aload_n (pc := 52) dX2_fillRows_52 rfl 0 rfl ?_
          obtain ⟨a28, ha28, h⟩ := ob h
          refine r_getS (pc := 53) dX2_fillRows_53 fgX2_19 rfl g20 ha28 ?_
          refine r_iload_n (pc := 56) dX2_fillRows_56 rfl 1 rfl ?_
          obtain ⟨g29, h⟩ := gd h
          obtain ⟨g30, h⟩ := gd h
          refine r_aaload (pc := 57) dX2_fillRows_57 g29 (by decide) g30 ?_
          obtain ⟨a31, ha31, h⟩ := ob h
          refine r_ref0 ha31 ?_
          refine r_iload_n (pc := 58) dX2_fillRows_58 rfl 2 rfl ?_
          refine r_lconst (pc := 59) dX2_fillRows_59 kc_lconst_1 ?_
          obtain ⟨g32, h⟩ := gd h
          obtain ⟨g33, h⟩ := gd h
          refine r_lastore (pc := 60) dX2_fillRows_60 g32 g33 ?_
          refine r_iinc (pc := 61) (v := (x2 + (1 : Int32))) (L' := [(2, vI (x2 + (1 : Int32))), (0, vR (some t)), (1, vI x1)]) dX2_fillRows_61 2 rfl (kc_inc_1 _) (by decide) rfl ?_
          refine r_goto (pc := 64) (tgt := 9) dX2_fillRows_64 rfl ?_
          refine r_sub [1, 2, 0] rfl ?_
          exact ih _ _ _ h
        · have h := it h c
          refine r_lconst (pc := 46) dX2_fillRows_46 kc_lconst_1 ?_
          refine r_goto (pc := 47) (tgt := 51) dX2_fillRows_47 rfl ?_
          obtain ⟨g36, h⟩ := gd h
          obtain ⟨g37, h⟩ := gd h
          refine r_lastore (pc := 51) dX2_fillRows_51 g36 g37 ?_
          refine r_aload_n (pc := 52) dX2_fillRows_52 rfl 0 rfl ?_
          obtain ⟨a39, ha39, h⟩ := ob h
          refine r_getS (pc := 53) dX2_fillRows_53 fgX2_19 rfl g20 ha39 ?_
          refine r_iload_n (pc := 56) dX2_fillRows_56 rfl 1 rfl ?_
          obtain ⟨g40, h⟩ := gd h
          obtain ⟨g41, h⟩ := gd h
          refine r_aaload (pc := 57) dX2_fillRows_57 g40 (by decide) g41 ?_
          obtain ⟨a42, ha42, h⟩ := ob h
          refine r_ref0 ha42 ?_
          refine r_iload_n (pc := 58) dX2_fillRows_58 rfl 2 rfl ?_
          refine r_lconst (pc := 59) dX2_fillRows_59 kc_lconst_1 ?_
          obtain ⟨g43, h⟩ := gd h
          obtain ⟨g44, h⟩ := gd h
          refine r_lastore (pc := 60) dX2_fillRows_60 g43 g44 ?_
          refine r_iinc (pc := 61) (v := (x2 + (1 : Int32))) (L' := [(2, vI (x2 + (1 : Int32))), (0, vR (some t)), (1, vI x1)]) dX2_fillRows_61 2 rfl (kc_inc_1 _) (by decide) rfl ?_
          refine r_goto (pc := 64) (tgt := 9) dX2_fillRows_64 rfl ?_
          refine r_sub [1, 2, 0] rfl ?_
          exact ih _ _ _ h
      · have h := ie h c
        refine r_aload_n (pc := 27) dX2_fillRows_27 rfl 0 rfl ?_
        obtain ⟨a47, ha47, h⟩ := ob h
        refine r_getS (pc := 28) dX2_fillRows_28 fgX2_11 rfl g20 ha47 ?_
        refine r_iload_n (pc := 31) dX2_fillRows_31 rfl 2 rfl ?_
        obtain ⟨g48, h⟩ := gd h
        obtain ⟨g49, h⟩ := gd h
        refine r_aaload (pc := 32) dX2_fillRows_32 g48 (by decide) g49 ?_
        obtain ⟨a50, ha50, h⟩ := ob h
        refine r_ref0 ha50 ?_
        refine r_iload_n (pc := 33) dX2_fillRows_33 rfl 1 rfl ?_
        obtain ⟨g51, h⟩ := gd h
        obtain ⟨g52, h⟩ := gd h
        refine r_iaload (pc := 34) dX2_fillRows_34 g51 g52 ?_
        refine r_i2l (pc := 35) dX2_fillRows_35 ?_
        refine r_goto (pc := 36) (tgt := 51) dX2_fillRows_36 rfl ?_
        obtain ⟨g53, h⟩ := gd h
        obtain ⟨g54, h⟩ := gd h
        refine r_lastore (pc := 51) dX2_fillRows_51 g53 g54 ?_
        refine r_aload_n (pc := 52) dX2_fillRows_52 rfl 0 rfl ?_
        obtain ⟨a56, ha56, h⟩ := ob h
        refine r_getS (pc := 53) dX2_fillRows_53 fgX2_19 rfl g20 ha56 ?_
        refine r_iload_n (pc := 56) dX2_fillRows_56 rfl 1 rfl ?_
        obtain ⟨g57, h⟩ := gd h
        obtain ⟨g58, h⟩ := gd h
        refine r_aaload (pc := 57) dX2_fillRows_57 g57 (by decide) g58 ?_
        obtain ⟨a59, ha59, h⟩ := ob h
        refine r_ref0 ha59 ?_
        refine r_iload_n (pc := 58) dX2_fillRows_58 rfl 2 rfl ?_
        refine r_lconst (pc := 59) dX2_fillRows_59 kc_lconst_1 ?_
        obtain ⟨g60, h⟩ := gd h
        obtain ⟨g61, h⟩ := gd h
        refine r_lastore (pc := 60) dX2_fillRows_60 g60 g61 ?_
        refine r_iinc (pc := 61) (v := (x2 + (1 : Int32))) (L' := [(2, vI (x2 + (1 : Int32))), (0, vR (some t)), (1, vI x1)]) dX2_fillRows_61 2 rfl (kc_inc_1 _) (by decide) rfl ?_
        refine r_goto (pc := 64) (tgt := 9) dX2_fillRows_64 rfl ?_
        refine r_sub [1, 2, 0] rfl ?_
        exact ih _ _ _ h
def fX2_fillRows_l2  (σ : Shp) (I : Nat → Nat → Int32) (R : Nat → Nat → Option Nat) (t : Nat) : Nat → (Nat → Nat → Int64) → (Int32) → Option ((Nat → Nat → Int64))
  | 0, _, _ => none
  | n + 1, J, x1 =>
    if (3 : Int32) ≤ x1 then
      some J
    else
      fX2_fillRows_l9 (fX2_fillRows_l2 σ I R t n) σ I R t FUx J x1 (0 : Int32)
theorem wX2_fillRows_l2 {G : Gx} {l : Launch} {σ : Shp} {I : Nat → Nat → Int32} {D : Nat → Nat → UInt64} {R : Nat → Nat → Option Nat} {t : Nat} {J9 : Nat → Nat → Int64} : ∀ (n : Nat) (J : Nat → Nat → Int64) (x1 : Int32), fX2_fillRows_l2 σ I R t n J x1 = some J9 → WX2_fillRows G l σ (σ, I, J9, D, R) none (σ, I, J, D, R) 2 [(0, vR (some t)), (1, vI x1)] [] := by
  intro n
  induction n with
  | zero =>
    intro J x1 h
    have h : none = some _ := h
    cases h
  | succ n ih =>
    intro J x1 h
    rw [fX2_fillRows_l2] at h
    refine r_iload_n (pc := 2) dX2_fillRows_2 rfl 1 rfl ?_
    refine r_iconst (pc := 3) dX2_fillRows_3 kc_iconst_3 ?_
    refine r_icmp_ge (pc := 4) (tgt := 99) dX2_fillRows_4 rfl (fun c => ?_) (fun c => ?_)
    · have h := it h c
      cases h
      exact r_vret dX2_fillRows_99
    · have h := ie h c
      refine r_iconst (pc := 7) dX2_fillRows_7 kc_iconst_0 ?_
      refine r_istore_n (pc := 8) (L' := [(2, vI (0 : Int32)), (0, vR (some t)), (1, vI x1)]) dX2_fillRows_8 rfl (by decide) rfl ?_
      refine r_sub [1, 2, 0] rfl ?_
      exact wX2_fillRows_l9 ih _ _ _ _ h
def fX2_fillRows (σ : Shp) (I : Nat → Nat → Int32) (J : Nat → Nat → Int64) (R : Nat → Nat → Option Nat) (t : Nat)  : Option ((Nat → Nat → Int64)) :=
  fX2_fillRows_l2 σ I R t FUx J (0 : Int32)
theorem kX2_fillRows {G : Gx} {l : Launch} {σ : Shp} {I : Nat → Nat → Int32} {J : Nat → Nat → Int64} {D : Nat → Nat → UInt64} {R : Nat → Nat → Option Nat} {t : Nat}  {J9 : Nat → Nat → Int64} (h : fX2_fillRows σ I J R t = some J9) : Con G l yX2_fillRows cX2_fillRows 3 none 0 0 [vR (some t)] (σ, I, J, D, R) (σ, I, J9, D, R) none := by
  unfold fX2_fillRows at h
  refine Con.mk (by decide +kernel) rfl (Nat.le_of_ble_eq_true rfl) ?_
  show WX2_fillRows G l σ (σ, I, J9, D, R) none (σ, I, J, D, R) 0 _ []
  refine r_iconst (pc := 0) dX2_fillRows_0 kc_iconst_0 ?_
  refine r_istore_n (pc := 1) (L' := [(1, vI (0 : Int32)), (0, vR (some t))]) dX2_fillRows_1 rfl (by decide) rfl ?_
  refine r_sub [1, 0] rfl ?_
  exact wX2_fillRows_l2 _ _ _ h
abbrev WX2_tellFractions (G : Gx) (l : Launch) (σ0 : Shp) (X1 : Stt) (rv : Option SV) : Stt → Nat → List (Nat × SV) → List SV → Prop := Wm G l yX2_tellFractions cX2_tellFractions 3 (some .boolean) (fun _ => True) (rmx 0 0 σ0 X1.1) σ0 (Qmx G σ0 X1 rv)
def fX2_tellFractions_l24  (σ : Shp) (I : Nat → Nat → Int32) (R : Nat → Nat → Option Nat) (t : Nat) : Nat → (Nat → Nat → Int64) → (Int32) → (Int32) → Option ((Nat → Nat → Int64) × (Int32))
  | 0, _, _, _ => none
  | n + 1, J, x1, x2 =>
    if kdx σ t = 3 then
    if (I t 7) ≤ x2 then
      if x1 = 0 ∨ x1 = 1 then
      some (J, x1)
      else none
    else
      if (3 : Int32) ≤ x2 then
        if x1 = 0 ∨ x1 = 1 then
        some (J, x1)
        else none
      else
        ((R t 4) : Option Nat).bind fun a4 =>
        ((R t 3) : Option Nat).bind fun a5 =>
        if kdx σ a5 = 20 then
        if ¬ (x2 < 0 ∨ lnx σ a5 ≤ Int32.toNatClampNeg x2) then
        ((R t 1) : Option Nat).bind fun a8 =>
        if kdx σ a8 = 29 then
        if ¬ (x2 < 0 ∨ lnx σ a8 ≤ Int32.toNatClampNeg x2) then
        ((R a8 (Int32.toNatClampNeg x2)) : Option Nat).bind fun a11 =>
        if kdx σ a11 = 21 then
        if ¬ ((4 : Int32) < 0 ∨ lnx σ a11 ≤ Int32.toNatClampNeg (4 : Int32)) then
        if kdx σ a4 = 21 then
        if ¬ ((I a5 (Int32.toNatClampNeg x2)) < 0 ∨ lnx σ a4 ≤ Int32.toNatClampNeg (I a5 (Int32.toNatClampNeg x2))) then
        let J16 := u2 J a4 (Int32.toNatClampNeg (I a5 (Int32.toNatClampNeg x2))) (J a11 (Int32.toNatClampNeg (4 : Int32)))
        ((R t 5) : Option Nat).bind fun a17 =>
        ((R t 2) : Option Nat).bind fun a18 =>
        if kdx σ a18 = 29 then
        if ¬ (x2 < 0 ∨ lnx σ a18 ≤ Int32.toNatClampNeg x2) then
        ((R a18 (Int32.toNatClampNeg x2)) : Option Nat).bind fun a21 =>
        if kdx σ a21 = 21 then
        if ¬ ((4 : Int32) < 0 ∨ lnx σ a21 ≤ Int32.toNatClampNeg (4 : Int32)) then
        if kdx σ a17 = 21 then
        if ¬ ((I a5 (Int32.toNatClampNeg x2)) < 0 ∨ lnx σ a17 ≤ Int32.toNatClampNeg (I a5 (Int32.toNatClampNeg x2))) then
        let J26 := u2 J16 a17 (Int32.toNatClampNeg (I a5 (Int32.toNatClampNeg x2))) (J16 a21 (Int32.toNatClampNeg (4 : Int32)))
        if x1 = 0 then
          let v27 := x2 + (1 : Int32)
          fX2_tellFractions_l24 σ I R t n J26 (0 : Int32) v27
        else
          if (J26 a11 (Int32.toNatClampNeg (4 : Int32))) < (0 : Int64) then
            let v28 := x2 + (1 : Int32)
            fX2_tellFractions_l24 σ I R t n J26 (0 : Int32) v28
          else
            let v29 := x2 + (1 : Int32)
            fX2_tellFractions_l24 σ I R t n J26 (1 : Int32) v29
        else none
        else none
        else none
        else none
        else none
        else none
        else none
        else none
        else none
        else none
        else none
        else none
        else none
        else none
    else none
theorem wX2_tellFractions_l24 {G : Gx} {l : Launch} {σ : Shp} {I : Nat → Nat → Int32} {D : Nat → Nat → UInt64} {R : Nat → Nat → Option Nat} {t : Nat} {J9 : Nat → Nat → Int64} {r9 : Int32} : ∀ (n : Nat) (J : Nat → Nat → Int64) (x1 : Int32) (x2 : Int32), fX2_tellFractions_l24 σ I R t n J x1 x2 = some (J9, r9) → WX2_tellFractions G l σ (σ, I, J9, D, R) (some (vI r9)) (σ, I, J, D, R) 24 [(0, vR (some t)), (1, vI x1), (2, vI x2)] [] := by
  intro n
  induction n with
  | zero =>
    intro J x1 x2 h
    have h : none = some _ := h
    cases h
  | succ n ih =>
    intro J x1 x2 h
    rw [fX2_tellFractions_l24] at h
    refine r_iload_n (pc := 24) dX2_tellFractions_24 rfl 2 rfl ?_
    refine r_aload_n (pc := 25) dX2_tellFractions_25 rfl 0 rfl ?_
    obtain ⟨g1, h⟩ := gd h
    refine r_getI (pc := 26) dX2_tellFractions_26 fgX2_36 rfl g1 ?_
    refine r_icmp_ge (pc := 29) (tgt := 104) dX2_tellFractions_29 rfl (fun c => ?_) (fun c => ?_)
    · have h := it h c
      refine r_iload_n (pc := 104) dX2_tellFractions_104 rfl 1 rfl ?_
      obtain ⟨g2, h⟩ := gd h
      cases h
      exact r_zret dX2_tellFractions_105 g2
    · have h := ie h c
      refine r_iload_n (pc := 32) dX2_tellFractions_32 rfl 2 rfl ?_
      refine r_iconst (pc := 33) dX2_tellFractions_33 kc_iconst_3 ?_
      refine r_icmp_ge (pc := 34) (tgt := 104) dX2_tellFractions_34 rfl (fun c => ?_) (fun c => ?_)
      · have h := it h c
        refine r_iload_n (pc := 104) dX2_tellFractions_104 rfl 1 rfl ?_
        obtain ⟨g3, h⟩ := gd h
        cases h
        exact r_zret dX2_tellFractions_105 g3
      · have h := ie h c
        refine r_aload_n (pc := 37) dX2_tellFractions_37 rfl 0 rfl ?_
        obtain ⟨a4, ha4, h⟩ := ob h
        refine r_getS (pc := 38) dX2_tellFractions_38 fgX2_26 rfl g1 ha4 ?_
        refine r_aload_n (pc := 41) dX2_tellFractions_41 rfl 0 rfl ?_
        obtain ⟨a5, ha5, h⟩ := ob h
        refine r_getS (pc := 42) dX2_tellFractions_42 fgX2_22 rfl g1 ha5 ?_
        refine r_iload_n (pc := 45) dX2_tellFractions_45 rfl 2 rfl ?_
        obtain ⟨g6, h⟩ := gd h
        obtain ⟨g7, h⟩ := gd h
        refine r_iaload (pc := 46) dX2_tellFractions_46 g6 g7 ?_
        refine r_aload_n (pc := 47) dX2_tellFractions_47 rfl 0 rfl ?_
        obtain ⟨a8, ha8, h⟩ := ob h
        refine r_getS (pc := 48) dX2_tellFractions_48 fgX2_16 rfl g1 ha8 ?_
        refine r_iload_n (pc := 51) dX2_tellFractions_51 rfl 2 rfl ?_
        obtain ⟨g9, h⟩ := gd h
        obtain ⟨g10, h⟩ := gd h
        refine r_aaload (pc := 52) dX2_tellFractions_52 g9 (by decide) g10 ?_
        obtain ⟨a11, ha11, h⟩ := ob h
        refine r_ref0 ha11 ?_
        refine r_iconst (pc := 53) dX2_tellFractions_53 kc_iconst_4 ?_
        obtain ⟨g12, h⟩ := gd h
        obtain ⟨g13, h⟩ := gd h
        refine r_laload (pc := 54) dX2_tellFractions_54 g12 g13 ?_
        obtain ⟨g14, h⟩ := gd h
        obtain ⟨g15, h⟩ := gd h
        refine r_lastore (pc := 55) dX2_tellFractions_55 g14 g15 ?_
        refine r_aload_n (pc := 56) dX2_tellFractions_56 rfl 0 rfl ?_
        obtain ⟨a17, ha17, h⟩ := ob h
        refine r_getS (pc := 57) dX2_tellFractions_57 fgX2_30 rfl g1 ha17 ?_
        refine r_aload_n (pc := 60) dX2_tellFractions_60 rfl 0 rfl ?_
        refine r_getS (pc := 61) dX2_tellFractions_61 fgX2_22 rfl g1 ha5 ?_
        refine r_iload_n (pc := 64) dX2_tellFractions_64 rfl 2 rfl ?_
        refine r_iaload (pc := 65) dX2_tellFractions_65 g6 g7 ?_
        refine r_aload_n (pc := 66) dX2_tellFractions_66 rfl 0 rfl ?_
        obtain ⟨a18, ha18, h⟩ := ob h
        refine r_getS (pc := 67) dX2_tellFractions_67 fgX2_19 rfl g1 ha18 ?_
        refine r_iload_n (pc := 70) dX2_tellFractions_70 rfl 2 rfl ?_
        obtain ⟨g19, h⟩ := gd h
        obtain ⟨g20, h⟩ := gd h
        refine r_aaload (pc := 71) dX2_tellFractions_71 g19 (by decide) g20 ?_
        obtain ⟨a21, ha21, h⟩ := ob h
        refine r_ref0 ha21 ?_
        refine r_iconst (pc := 72) dX2_tellFractions_72 kc_iconst_4 ?_
        obtain ⟨g22, h⟩ := gd h
        obtain ⟨g23, h⟩ := gd h
        refine r_laload (pc := 73) dX2_tellFractions_73 g22 g23 ?_
        obtain ⟨g24, h⟩ := gd h
        obtain ⟨g25, h⟩ := gd h
        refine r_lastore (pc := 74) dX2_tellFractions_74 g24 g25 ?_
        refine r_iload_n (pc := 75) dX2_tellFractions_75 rfl 1 rfl ?_
        refine r_if_eq (pc := 76) (tgt := 96) dX2_tellFractions_76 rfl (fun c => ?_) (fun c => ?_)
        · have h := it h c
          refine r_iconst (pc := 96) dX2_tellFractions_96 kc_iconst_0 ?_
          refine r_istore_n (pc := 97) (L' := [(1, vI (0 : Int32)), (0, vR (some t)), (2, vI x2)]) dX2_tellFractions_97 rfl (by decide) rfl ?_
          refine r_iinc (pc := 98) (v := (x2 + (1 : Int32))) (L' := [(2, vI (x2 + (1 : Int32))), (1, vI (0 : Int32)), (0, vR (some t))]) dX2_tellFractions_98 2 rfl (kc_inc_1 _) (by decide) rfl ?_
          refine r_goto (pc := 101) (tgt := 24) dX2_tellFractions_101 rfl ?_
          refine r_sub [2, 1, 0] rfl ?_
          exact ih _ _ _ h
        · have h := ie h c
          refine r_aload_n (pc := 79) dX2_tellFractions_79 rfl 0 rfl ?_
          refine r_getS (pc := 80) dX2_tellFractions_80 fgX2_16 rfl g1 ha8 ?_
          refine r_iload_n (pc := 83) dX2_tellFractions_83 rfl 2 rfl ?_
          refine r_aaload (pc := 84) dX2_tellFractions_84 g9 (by decide) g10 ?_
          refine r_ref0 ha11 ?_
          refine r_iconst (pc := 85) dX2_tellFractions_85 kc_iconst_4 ?_
          refine r_laload (pc := 86) dX2_tellFractions_86 g12 g13 ?_
          refine r_lconst (pc := 87) dX2_tellFractions_87 kc_lconst_0 ?_
          refine r_lcmp (pc := 88) dX2_tellFractions_88 ?_
          refine r_if_lt (pc := 89) (tgt := 96) dX2_tellFractions_89 rfl (fun c => ?_) (fun c => ?_)
          · have h := it h (lgc_lt.mp c)
            refine r_iconst (pc := 96) dX2_tellFractions_96 kc_iconst_0 ?_
            refine r_istore_n (pc := 97) (L' := [(1, vI (0 : Int32)), (0, vR (some t)), (2, vI x2)]) dX2_tellFractions_97 rfl (by decide) rfl ?_
            refine r_iinc (pc := 98) (v := (x2 + (1 : Int32))) (L' := [(2, vI (x2 + (1 : Int32))), (1, vI (0 : Int32)), (0, vR (some t))]) dX2_tellFractions_98 2 rfl (kc_inc_1 _) (by decide) rfl ?_
            refine r_goto (pc := 101) (tgt := 24) dX2_tellFractions_101 rfl ?_
            refine r_sub [2, 1, 0] rfl ?_
            exact ih _ _ _ h
          · have h := ie h (fun q => c (lgc_lt.mpr q))
            refine r_iconst (pc := 92) dX2_tellFractions_92 kc_iconst_1 ?_
            refine r_goto (pc := 93) (tgt := 97) dX2_tellFractions_93 rfl ?_
            refine r_istore_n (pc := 97) (L' := [(1, vI (1 : Int32)), (0, vR (some t)), (2, vI x2)]) dX2_tellFractions_97 rfl (by decide) rfl ?_
            refine r_iinc (pc := 98) (v := (x2 + (1 : Int32))) (L' := [(2, vI (x2 + (1 : Int32))), (1, vI (1 : Int32)), (0, vR (some t))]) dX2_tellFractions_98 2 rfl (kc_inc_1 _) (by decide) rfl ?_
            refine r_goto (pc := 101) (tgt := 24) dX2_tellFractions_101 rfl ?_
            refine r_sub [2, 1, 0] rfl ?_
            exact ih _ _ _ h
def fX2_tellFractions_l2  (σ : Shp) (I : Nat → Nat → Int32) (R : Nat → Nat → Option Nat) (t : Nat) : Nat → (Nat → Nat → Int64) → (Int32) → Option ((Nat → Nat → Int64) × (Int32))
  | 0, _, _ => none
  | n + 1, J, x1 =>
    if (4 : Int32) ≤ x1 then
      fX2_tellFractions_l24 σ I R t FUx J (1 : Int32) (0 : Int32)
    else
      if kdx σ t = 3 then
      ((R t 5) : Option Nat).bind fun a31 =>
      if kdx σ a31 = 21 then
      if ¬ (x1 < 0 ∨ lnx σ a31 ≤ Int32.toNatClampNeg x1) then
      let J34 := u2 J a31 (Int32.toNatClampNeg x1) (1 : Int64)
      let v35 := x1 + (1 : Int32)
      fX2_tellFractions_l2 σ I R t n J34 v35
      else none
      else none
      else none
theorem wX2_tellFractions_l2 {G : Gx} {l : Launch} {σ : Shp} {I : Nat → Nat → Int32} {D : Nat → Nat → UInt64} {R : Nat → Nat → Option Nat} {t : Nat} {J9 : Nat → Nat → Int64} {r9 : Int32} : ∀ (n : Nat) (J : Nat → Nat → Int64) (x1 : Int32), fX2_tellFractions_l2 σ I R t n J x1 = some (J9, r9) → WX2_tellFractions G l σ (σ, I, J9, D, R) (some (vI r9)) (σ, I, J, D, R) 2 [(0, vR (some t)), (1, vI x1)] [] := by
  intro n
  induction n with
  | zero =>
    intro J x1 h
    have h : none = some _ := h
    cases h
  | succ n ih =>
    intro J x1 h
    rw [fX2_tellFractions_l2] at h
    refine r_iload_n (pc := 2) dX2_tellFractions_2 rfl 1 rfl ?_
    refine r_iconst (pc := 3) dX2_tellFractions_3 kc_iconst_4 ?_
    refine r_icmp_ge (pc := 4) (tgt := 20) dX2_tellFractions_4 rfl (fun c => ?_) (fun c => ?_)
    · have h := it h c
      refine r_iconst (pc := 20) dX2_tellFractions_20 kc_iconst_1 ?_
      refine r_istore_n (pc := 21) (L' := [(1, vI (1 : Int32)), (0, vR (some t))]) dX2_tellFractions_21 rfl (by decide) rfl ?_
      refine r_iconst (pc := 22) dX2_tellFractions_22 kc_iconst_0 ?_
      refine r_istore_n (pc := 23) (L' := [(2, vI (0 : Int32)), (1, vI (1 : Int32)), (0, vR (some t))]) dX2_tellFractions_23 rfl (by decide) rfl ?_
      refine r_sub [2, 1, 0] rfl ?_
      exact wX2_tellFractions_l24 _ _ _ _ h
    · have h := ie h c
      refine r_aload_n (pc := 7) dX2_tellFractions_7 rfl 0 rfl ?_
      obtain ⟨g30, h⟩ := gd h
      obtain ⟨a31, ha31, h⟩ := ob h
      refine r_getS (pc := 8) dX2_tellFractions_8 fgX2_30 rfl g30 ha31 ?_
      refine r_iload_n (pc := 11) dX2_tellFractions_11 rfl 1 rfl ?_
      refine r_lconst (pc := 12) dX2_tellFractions_12 kc_lconst_1 ?_
      obtain ⟨g32, h⟩ := gd h
      obtain ⟨g33, h⟩ := gd h
      refine r_lastore (pc := 13) dX2_tellFractions_13 g32 g33 ?_
      refine r_iinc (pc := 14) (v := (x1 + (1 : Int32))) (L' := [(1, vI (x1 + (1 : Int32))), (0, vR (some t))]) dX2_tellFractions_14 1 rfl (kc_inc_1 _) (by decide) rfl ?_
      refine r_goto (pc := 17) (tgt := 2) dX2_tellFractions_17 rfl ?_
      refine r_sub [1, 0] rfl ?_
      exact ih _ _ h
def fX2_tellFractions (σ : Shp) (I : Nat → Nat → Int32) (J : Nat → Nat → Int64) (R : Nat → Nat → Option Nat) (t : Nat)  : Option ((Nat → Nat → Int64) × (Int32)) :=
  fX2_tellFractions_l2 σ I R t FUx J (0 : Int32)
theorem kX2_tellFractions {G : Gx} {l : Launch} {σ : Shp} {I : Nat → Nat → Int32} {J : Nat → Nat → Int64} {D : Nat → Nat → UInt64} {R : Nat → Nat → Option Nat} {t : Nat}  {J9 : Nat → Nat → Int64} {r9 : Int32} (h : fX2_tellFractions σ I J R t = some (J9, r9)) : Con G l yX2_tellFractions cX2_tellFractions 3 (some .boolean) 0 0 [vR (some t)] (σ, I, J, D, R) (σ, I, J9, D, R) (some (vI r9)) := by
  unfold fX2_tellFractions at h
  refine Con.mk (by decide +kernel) rfl (Nat.le_of_ble_eq_true rfl) ?_
  show WX2_tellFractions G l σ (σ, I, J9, D, R) (some (vI r9)) (σ, I, J, D, R) 0 _ []
  refine r_iconst (pc := 0) dX2_tellFractions_0 kc_iconst_0 ?_
  refine r_istore_n (pc := 1) (L' := [(1, vI (0 : Int32)), (0, vR (some t))]) dX2_tellFractions_1 rfl (by decide) rfl ?_
  refine r_sub [1, 0] rfl ?_
  exact wX2_tellFractions_l2 _ _ _ h
abbrev WXM_absJ (G : Gx) (l : Launch) (σ0 : Shp) (X1 : Stt) (rv : Option SV) : Stt → Nat → List (Nat × SV) → List SV → Prop := Wm G l yXM_absJ cXM_absJ 2 (some .long) (fun _ => True) (rmx 0 0 σ0 X1.1) σ0 (Qmx G σ0 X1 rv)
def fXM_absJ  (x0 : Int64) : (Int64) :=
  if (0 : Int64) ≤ x0 then
    x0
  else
    (-x0)
theorem kXM_absJ {G : Gx} {l : Launch} {σ : Shp} {I : Nat → Nat → Int32} {J : Nat → Nat → Int64} {D : Nat → Nat → UInt64} {R : Nat → Nat → Option Nat} {x0 : Int64} {r9 : Int64} (h : fXM_absJ x0 = r9) : Con G l yXM_absJ cXM_absJ 2 (some .long) 0 0 [vL x0] (σ, I, J, D, R) (σ, I, J, D, R) (some (vL r9)) := by
  unfold fXM_absJ at h
  refine Con.mkF (by decide +kernel) rfl (Nat.le_of_ble_eq_true rfl) ?_
  show WXM_absJ G l σ (σ, I, J, D, R) (some (vL r9)) (σ, I, J, D, R) 0 _ []
  refine r_lload_n (pc := 0) dXM_absJ_0 rfl 0 rfl ?_
  refine r_lconst (pc := 1) dXM_absJ_1 kc_lconst_0 ?_
  refine r_lcmp (pc := 2) dXM_absJ_2 ?_
  refine r_ifge (pc := 3) (tgt := 11) dXM_absJ_3 rfl (fun c => ?_) (fun c => ?_)
  · have h := it h (lgc_ge.mp c)
    refine r_lload_n (pc := 11) dXM_absJ_11 rfl 0 rfl ?_
    subst h
    exact r_lret dXM_absJ_12
  · have h := ie h (fun q => c (lgc_ge.mpr q))
    refine r_lload_n (pc := 6) dXM_absJ_6 rfl 0 rfl ?_
    refine r_lneg (pc := 7) dXM_absJ_7 ?_
    refine r_goto (pc := 8) (tgt := 12) dXM_absJ_8 rfl ?_
    subst h
    exact r_lret dXM_absJ_12
abbrev WX2_commonDivisor (G : Gx) (l : Launch) (σ0 : Shp) (X1 : Stt) (rv : Option SV) : Stt → Nat → List (Nat × SV) → List SV → Prop := Wm G l yX2_commonDivisor cX2_commonDivisor 11 (some .long) (fun _ => True) (rmx 1 21 σ0 X1.1) σ0 (Qmx G σ0 X1 rv)
def fX2_commonDivisor_l15   : Nat → (Int64) → (Int64) → (Int32) → Option ((Int64))
  | 0, _, _, _ => none
  | n + 1, x4, x6, x8 =>
    if (200 : Int32) ≤ x8 then
      some x4
    else
      if x6 = (0 : Int64) then
        some x4
      else
        if ¬ x6 = 0 then
        let v4 := (x4 - x4 / x6 * x6)
        let v5 := x8 + (1 : Int32)
        fX2_commonDivisor_l15 n x6 v4 v5
        else none
theorem wX2_commonDivisor_l15 {G : Gx} {l : Launch} {σ : Shp} {I : Nat → Nat → Int32} {J : Nat → Nat → Int64} {D : Nat → Nat → UInt64} {R : Nat → Nat → Option Nat} {r9 : Int64} : ∀ (n : Nat) (x4 : Int64) (x6 : Int64) (x8 : Int32), fX2_commonDivisor_l15 n x4 x6 x8 = some r9 → WX2_commonDivisor G l σ (σ, I, J, D, R) (some (vL r9)) (σ, I, J, D, R) 15 [(4, vL x4), (6, vL x6), (8, vI x8)] [] := by
  intro n
  induction n with
  | zero =>
    intro x4 x6 x8 h
    have h : none = some _ := h
    cases h
  | succ n ih =>
    intro x4 x6 x8 h
    rw [fX2_commonDivisor_l15] at h
    refine r_iload (pc := 15) dX2_commonDivisor_15 2 rfl ?_
    refine r_sipush (pc := 17) dX2_commonDivisor_17 kc_sipush_200 ?_
    refine r_icmp_ge (pc := 20) (tgt := 51) dX2_commonDivisor_20 rfl (fun c => ?_) (fun c => ?_)
    · have h := it h c
      refine r_lload (pc := 51) dX2_commonDivisor_51 0 rfl ?_
      cases h
      exact r_lret dX2_commonDivisor_53
    · have h := ie h c
      refine r_lload (pc := 23) dX2_commonDivisor_23 1 rfl ?_
      refine r_lconst (pc := 25) dX2_commonDivisor_25 kc_lconst_0 ?_
      refine r_lcmp (pc := 26) dX2_commonDivisor_26 ?_
      refine r_if_eq (pc := 27) (tgt := 51) dX2_commonDivisor_27 rfl (fun c => ?_) (fun c => ?_)
      · have h := it h (lgc_eq.mp c)
        refine r_lload (pc := 51) dX2_commonDivisor_51 0 rfl ?_
        cases h
        exact r_lret dX2_commonDivisor_53
      · have h := ie h (fun q => c (lgc_eq.mpr q))
        refine r_lload (pc := 30) dX2_commonDivisor_30 0 rfl ?_
        refine r_lload (pc := 32) dX2_commonDivisor_32 1 rfl ?_
        obtain ⟨g3, h⟩ := gd h
        refine r_lrem (pc := 34) dX2_commonDivisor_34 g3 ?_
        refine r_lstore (pc := 35) (L' := [(9, vL (x4 - x4 / x6 * x6)), (4, vL x4), (6, vL x6), (8, vI x8)]) dX2_commonDivisor_35 (by decide) rfl ?_
        refine r_lload (pc := 37) dX2_commonDivisor_37 2 rfl ?_
        refine r_lstore (pc := 39) (L' := [(4, vL x6), (9, vL (x4 - x4 / x6 * x6)), (6, vL x6), (8, vI x8)]) dX2_commonDivisor_39 (by decide) rfl ?_
        refine r_lload (pc := 41) dX2_commonDivisor_41 1 rfl ?_
        refine r_lstore (pc := 43) (L' := [(6, vL (x4 - x4 / x6 * x6)), (4, vL x6), (9, vL (x4 - x4 / x6 * x6)), (8, vI x8)]) dX2_commonDivisor_43 (by decide) rfl ?_
        refine r_iinc (pc := 45) (v := (x8 + (1 : Int32))) (L' := [(8, vI (x8 + (1 : Int32))), (6, vL (x4 - x4 / x6 * x6)), (4, vL x6), (9, vL (x4 - x4 / x6 * x6))]) dX2_commonDivisor_45 3 rfl (kc_inc_1 _) (by decide) rfl ?_
        refine r_goto (pc := 48) (tgt := 15) dX2_commonDivisor_48 rfl ?_
        refine r_sub [2, 1, 0] rfl ?_
        exact ih _ _ _ h
def fX2_commonDivisor  (x0 : Int64) (x2 : Int64) : Option ((Int64)) :=
  let v1 := (fXM_absJ x0)
  let v2 := (fXM_absJ x2)
  fX2_commonDivisor_l15 FUx v1 v2 (0 : Int32)
theorem kX2_commonDivisor {G : Gx} {l : Launch} {σ : Shp} {I : Nat → Nat → Int32} {J : Nat → Nat → Int64} {D : Nat → Nat → UInt64} {R : Nat → Nat → Option Nat} {x0 : Int64} {x2 : Int64} {r9 : Int64} (h : fX2_commonDivisor x0 x2 = some r9) : Con G l yX2_commonDivisor cX2_commonDivisor 11 (some .long) 1 21 [vL x0, vL x2] (σ, I, J, D, R) (σ, I, J, D, R) (some (vL r9)) := by
  unfold fX2_commonDivisor at h
  refine Con.mk (by decide +kernel) rfl (Nat.le_of_ble_eq_true rfl) ?_
  show WX2_commonDivisor G l σ (σ, I, J, D, R) (some (vL r9)) (σ, I, J, D, R) 0 _ []
  refine r_lload_n (pc := 0) dX2_commonDivisor_0 rfl 0 rfl ?_
  refine r_callS1 (pc := 1) (av := [vL x0]) (S := []) dX2_commonDivisor_1 (kXM_absJ rfl) mkX2_76 mwXM_absJ rfl ⟨Nat.le_of_ble_eq_true rfl, Nat.le_of_ble_eq_true rfl⟩ (Nat.le_of_ble_eq_true rfl) ⟨Nat.le_refl _, Nat.le_refl _⟩ (fun b => b) ?_
  refine r_lstore (pc := 4) (L' := [(4, vL (fXM_absJ x0)), (0, vL x0), (2, vL x2)]) dX2_commonDivisor_4 (by decide) rfl ?_
  refine r_lload_n (pc := 6) dX2_commonDivisor_6 rfl 2 rfl ?_
  refine r_callS1 (pc := 7) (av := [vL x2]) (S := []) dX2_commonDivisor_7 (kXM_absJ rfl) mkX2_76 mwXM_absJ rfl ⟨Nat.le_of_ble_eq_true rfl, Nat.le_of_ble_eq_true rfl⟩ (Nat.le_of_ble_eq_true rfl) ⟨Nat.le_refl _, Nat.le_refl _⟩ (fun b => b) ?_
  refine r_lstore (pc := 10) (L' := [(6, vL (fXM_absJ x2)), (4, vL (fXM_absJ x0)), (0, vL x0), (2, vL x2)]) dX2_commonDivisor_10 (by decide) rfl ?_
  refine r_iconst (pc := 12) dX2_commonDivisor_12 kc_iconst_0 ?_
  refine r_istore (pc := 13) (L' := [(8, vI (0 : Int32)), (6, vL (fXM_absJ x2)), (4, vL (fXM_absJ x0)), (0, vL x0), (2, vL x2)]) dX2_commonDivisor_13 (by decide) rfl ?_
  refine r_sub [2, 1, 0] rfl ?_
  exact wX2_commonDivisor_l15 _ _ _ _ h
abbrev WX2_firstSign (G : Gx) (l : Launch) (σ0 : Shp) (X1 : Stt) (rv : Option SV) : Stt → Nat → List (Nat × SV) → List SV → Prop := Wm G l yX2_firstSign cX2_firstSign 2 (some .int) (fun _ => True) (rmx 0 0 σ0 X1.1) σ0 (Qmx G σ0 X1 rv)
def fX2_firstSign_l2  (σ : Shp) (J : Nat → Nat → Int64) (R : Nat → Nat → Option Nat) (t : Nat) : Nat → (Int32) → Option ((Int32))
  | 0, _ => none
  | n + 1, x1 =>
    if (3 : Int32) ≤ x1 then
      some (1 : Int32)
    else
      if kdx σ t = 3 then
      ((R t 6) : Option Nat).bind fun a2 =>
      if kdx σ a2 = 21 then
      if ¬ (x1 < 0 ∨ lnx σ a2 ≤ Int32.toNatClampNeg x1) then
      if (J a2 (Int32.toNatClampNeg x1)) = (0 : Int64) then
        let v5 := x1 + (1 : Int32)
        fX2_firstSign_l2 σ J R t n v5
      else
        if (0 : Int64) ≤ (J a2 (Int32.toNatClampNeg x1)) then
          some (1 : Int32)
        else
          some (-1 : Int32)
      else none
      else none
      else none
theorem wX2_firstSign_l2 {G : Gx} {l : Launch} {σ : Shp} {I : Nat → Nat → Int32} {J : Nat → Nat → Int64} {D : Nat → Nat → UInt64} {R : Nat → Nat → Option Nat} {t : Nat} {r9 : Int32} : ∀ (n : Nat) (x1 : Int32), fX2_firstSign_l2 σ J R t n x1 = some r9 → WX2_firstSign G l σ (σ, I, J, D, R) (some (vI r9)) (σ, I, J, D, R) 2 [(0, vR (some t)), (1, vI x1)] [] := by
  intro n
  induction n with
  | zero =>
    intro x1 h
    have h : none = some _ := h
    cases h
  | succ n ih =>
    intro x1 h
    rw [fX2_firstSign_l2] at h
    refine r_iload_n (pc := 2) dX2_firstSign_2 rfl 1 rfl ?_
    refine r_iconst (pc := 3) dX2_firstSign_3 kc_iconst_3 ?_
    refine r_icmp_ge (pc := 4) (tgt := 41) dX2_firstSign_4 rfl (fun c => ?_) (fun c => ?_)
    · have h := it h c
      refine r_iconst (pc := 41) dX2_firstSign_41 kc_iconst_1 ?_
      cases h
      exact r_iret dX2_firstSign_42
    · have h := ie h c
      refine r_aload_n (pc := 7) dX2_firstSign_7 rfl 0 rfl ?_
      obtain ⟨g1, h⟩ := gd h
      obtain ⟨a2, ha2, h⟩ := ob h
      refine r_getS (pc := 8) dX2_firstSign_8 fgX2_33 rfl g1 ha2 ?_
      refine r_iload_n (pc := 11) dX2_firstSign_11 rfl 1 rfl ?_
      obtain ⟨g3, h⟩ := gd h
      obtain ⟨g4, h⟩ := gd h
      refine r_laload (pc := 12) dX2_firstSign_12 g3 g4 ?_
      refine r_lconst (pc := 13) dX2_firstSign_13 kc_lconst_0 ?_
      refine r_lcmp (pc := 14) dX2_firstSign_14 ?_
      refine r_if_eq (pc := 15) (tgt := 35) dX2_firstSign_15 rfl (fun c => ?_) (fun c => ?_)
      · have h := it h (lgc_eq.mp c)
        refine r_iinc (pc := 35) (v := (x1 + (1 : Int32))) (L' := [(1, vI (x1 + (1 : Int32))), (0, vR (some t))]) dX2_firstSign_35 1 rfl (kc_inc_1 _) (by decide) rfl ?_
        refine r_goto (pc := 38) (tgt := 2) dX2_firstSign_38 rfl ?_
        refine r_sub [1, 0] rfl ?_
        exact ih _ h
      · have h := ie h (fun q => c (lgc_eq.mpr q))
        refine r_aload_n (pc := 18) dX2_firstSign_18 rfl 0 rfl ?_
        refine r_getS (pc := 19) dX2_firstSign_19 fgX2_33 rfl g1 ha2 ?_
        refine r_iload_n (pc := 22) dX2_firstSign_22 rfl 1 rfl ?_
        refine r_laload (pc := 23) dX2_firstSign_23 g3 g4 ?_
        refine r_lconst (pc := 24) dX2_firstSign_24 kc_lconst_0 ?_
        refine r_lcmp (pc := 25) dX2_firstSign_25 ?_
        refine r_ifge (pc := 26) (tgt := 33) dX2_firstSign_26 rfl (fun c => ?_) (fun c => ?_)
        · have h := it h (lgc_ge.mp c)
          refine r_iconst (pc := 33) dX2_firstSign_33 kc_iconst_1 ?_
          cases h
          exact r_iret dX2_firstSign_34
        · have h := ie h (fun q => c (lgc_ge.mpr q))
          refine r_iconst (pc := 29) dX2_firstSign_29 kc_iconst_m1 ?_
          refine r_goto (pc := 30) (tgt := 34) dX2_firstSign_30 rfl ?_
          cases h
          exact r_iret dX2_firstSign_34
def fX2_firstSign (σ : Shp) (J : Nat → Nat → Int64) (R : Nat → Nat → Option Nat) (t : Nat)  : Option ((Int32)) :=
  fX2_firstSign_l2 σ J R t FUx (0 : Int32)
theorem kX2_firstSign {G : Gx} {l : Launch} {σ : Shp} {I : Nat → Nat → Int32} {J : Nat → Nat → Int64} {D : Nat → Nat → UInt64} {R : Nat → Nat → Option Nat} {t : Nat}  {r9 : Int32} (h : fX2_firstSign σ J R t = some r9) : Con G l yX2_firstSign cX2_firstSign 2 (some .int) 0 0 [vR (some t)] (σ, I, J, D, R) (σ, I, J, D, R) (some (vI r9)) := by
  unfold fX2_firstSign at h
  refine Con.mk (by decide +kernel) rfl (Nat.le_of_ble_eq_true rfl) ?_
  show WX2_firstSign G l σ (σ, I, J, D, R) (some (vI r9)) (σ, I, J, D, R) 0 _ []
  refine r_iconst (pc := 0) dX2_firstSign_0 kc_iconst_0 ?_
  refine r_istore_n (pc := 1) (L' := [(1, vI (0 : Int32)), (0, vR (some t))]) dX2_firstSign_1 rfl (by decide) rfl ?_
  refine r_sub [1, 0] rfl ?_
  exact wX2_firstSign_l2 _ _ h
abbrev WX2_tellWitness (G : Gx) (l : Launch) (σ0 : Shp) (X1 : Stt) (rv : Option SV) : Stt → Nat → List (Nat × SV) → List SV → Prop := Wm G l yX2_tellWitness cX2_tellWitness 9 none (fun _ => True) (rmx 2 51 σ0 X1.1) σ0 (Qmx G σ0 X1 rv)
def fX2_tellWitness_l157  (σ : Shp) (R : Nat → Nat → Option Nat) (t : Nat) : Nat → (Nat → Nat → Int64) → (Int64) → (Int32) → Option ((Nat → Nat → Int64))
  | 0, _, _, _ => none
  | n + 1, J, x6, x8 =>
    if (3 : Int32) ≤ x8 then
      some J
    else
      if x6 = (0 : Int64) then
        some J
      else
        if kdx σ t = 3 then
        ((R t 6) : Option Nat).bind fun a6 =>
        if kdx σ a6 = 21 then
        if ¬ (x8 < 0 ∨ lnx σ a6 ≤ Int32.toNatClampNeg x8) then
        if ¬ x6 = 0 then
        let J10 := u2 J a6 (Int32.toNatClampNeg x8) ((J a6 (Int32.toNatClampNeg x8)) / x6)
        let v11 := x8 + (1 : Int32)
        fX2_tellWitness_l157 σ R t n J10 x6 v11
        else none
        else none
        else none
        else none
theorem wX2_tellWitness_l157 {G : Gx} {l : Launch} {σ : Shp} {I : Nat → Nat → Int32} {D : Nat → Nat → UInt64} {R : Nat → Nat → Option Nat} {t : Nat} {J9 : Nat → Nat → Int64} : ∀ (n : Nat) (J : Nat → Nat → Int64) (x6 : Int64) (x8 : Int32), fX2_tellWitness_l157 σ R t n J x6 x8 = some J9 → WX2_tellWitness G l σ (σ, I, J9, D, R) none (σ, I, J, D, R) 157 [(0, vR (some t)), (6, vL x6), (8, vI x8)] [] := by
  intro n
  induction n with
  | zero =>
    intro J x6 x8 h
    have h : none = some _ := h
    cases h
  | succ n ih =>
    intro J x6 x8 h
    rw [fX2_tellWitness_l157] at h
    refine r_iload (pc := 157) dX2_tellWitness_157 2 rfl ?_
    refine r_iconst (pc := 159) dX2_tellWitness_159 kc_iconst_3 ?_
    refine r_icmp_ge (pc := 160) (tgt := 188) dX2_tellWitness_160 rfl (fun c => ?_) (fun c => ?_)
    · have h := it h c
      cases h
      exact r_vret dX2_tellWitness_188
    · have h := ie h c
      refine r_lload (pc := 163) dX2_tellWitness_163 1 rfl ?_
      refine r_lconst (pc := 165) dX2_tellWitness_165 kc_lconst_0 ?_
      refine r_lcmp (pc := 166) dX2_tellWitness_166 ?_
      refine r_if_eq (pc := 167) (tgt := 188) dX2_tellWitness_167 rfl (fun c => ?_) (fun c => ?_)
      · have h := it h (lgc_eq.mp c)
        cases h
        exact r_vret dX2_tellWitness_188
      · have h := ie h (fun q => c (lgc_eq.mpr q))
        refine r_aload_n (pc := 170) dX2_tellWitness_170 rfl 0 rfl ?_
        obtain ⟨g5, h⟩ := gd h
        obtain ⟨a6, ha6, h⟩ := ob h
        refine r_getS (pc := 171) dX2_tellWitness_171 fgX2_33 rfl g5 ha6 ?_
        refine r_iload (pc := 174) dX2_tellWitness_174 2 rfl ?_
        refine r_dup2 (pc := 176) dX2_tellWitness_176 rfl rfl ?_
        obtain ⟨g7, h⟩ := gd h
        obtain ⟨g8, h⟩ := gd h
        refine r_laload (pc := 177) dX2_tellWitness_177 g7 g8 ?_
        refine r_lload (pc := 178) dX2_tellWitness_178 1 rfl ?_
        obtain ⟨g9, h⟩ := gd h
        refine r_ldiv (pc := 180) dX2_tellWitness_180 g9 ?_
        refine r_lastore (pc := 181) dX2_tellWitness_181 g7 g8 ?_
        refine r_iinc (pc := 182) (v := (x8 + (1 : Int32))) (L' := [(8, vI (x8 + (1 : Int32))), (0, vR (some t)), (6, vL x6)]) dX2_tellWitness_182 2 rfl (kc_inc_1 _) (by decide) rfl ?_
        refine r_goto (pc := 185) (tgt := 157) dX2_tellWitness_185 rfl ?_
        refine r_sub [1, 2, 0] rfl ?_
        exact ih _ _ _ h
def fX2_tellWitness_l63  (σ : Shp) (R : Nat → Nat → Option Nat) (t : Nat) : Nat → (Nat → Nat → Int64) → (Int32) → (Int64) → (Int64) → (Int32) → Option ((Nat → Nat → Int64))
  | 0, _, _, _, _, _ => none
  | n + 1, J, x1, x2, x4, x6 =>
    if (3 : Int32) ≤ x6 then
      if x4 = (0 : Int64) then
        some J
      else
        if kdx σ t = 3 then
        (fX2_firstSign σ J R t).bind fun r2 =>
        let v4 := ((Int32.toInt64 r2) * x4)
        fX2_tellWitness_l157 σ R t FUx J v4 (0 : Int32)
        else none
    else
      if kdx σ t = 3 then
      ((R t 2) : Option Nat).bind fun a13 =>
      if kdx σ a13 = 29 then
      if ¬ (x1 < 0 ∨ lnx σ a13 ≤ Int32.toNatClampNeg x1) then
      ((R a13 (Int32.toNatClampNeg x1)) : Option Nat).bind fun a16 =>
      if kdx σ a16 = 21 then
      if ¬ (((5 : Int32) + x6) < 0 ∨ lnx σ a16 ≤ Int32.toNatClampNeg ((5 : Int32) + x6)) then
      let v19 := (J a16 (Int32.toNatClampNeg ((5 : Int32) + x6)))
      ((R t 6) : Option Nat).bind fun a20 =>
      if v19 = (0 : Int64) then
        if kdx σ a20 = 21 then
        if ¬ (x6 < 0 ∨ lnx σ a20 ≤ Int32.toNatClampNeg x6) then
        let J36 := u2 J a20 (Int32.toNatClampNeg x6) (0 : Int64)
        (fX2_commonDivisor x4 (J36 a20 (Int32.toNatClampNeg x6))).bind fun r37 =>
        let v39 := x6 + (1 : Int32)
        fX2_tellWitness_l63 σ R t n J36 x1 x2 r37 v39
        else none
        else none
      else
        ((R t 1) : Option Nat).bind fun a21 =>
        if kdx σ a21 = 29 then
        if ¬ (x1 < 0 ∨ lnx σ a21 ≤ Int32.toNatClampNeg x1) then
        ((R a21 (Int32.toNatClampNeg x1)) : Option Nat).bind fun a24 =>
        if kdx σ a24 = 21 then
        if ¬ (((5 : Int32) + x6) < 0 ∨ lnx σ a24 ≤ Int32.toNatClampNeg ((5 : Int32) + x6)) then
        if ¬ v19 = 0 then
        if kdx σ a20 = 21 then
        if ¬ (x6 < 0 ∨ lnx σ a20 ≤ Int32.toNatClampNeg x6) then
        let J30 := u2 J a20 (Int32.toNatClampNeg x6) ((J a24 (Int32.toNatClampNeg ((5 : Int32) + x6))) * (x2 / v19))
        (fX2_commonDivisor x4 (J30 a20 (Int32.toNatClampNeg x6))).bind fun r31 =>
        let v33 := x6 + (1 : Int32)
        fX2_tellWitness_l63 σ R t n J30 x1 x2 r31 v33
        else none
        else none
        else none
        else none
        else none
        else none
        else none
      else none
      else none
      else none
      else none
      else none
theorem wX2_tellWitness_l63 {G : Gx} {l : Launch} {σ : Shp} {I : Nat → Nat → Int32} {D : Nat → Nat → UInt64} {R : Nat → Nat → Option Nat} {t : Nat} {J9 : Nat → Nat → Int64} : ∀ (n : Nat) (J : Nat → Nat → Int64) (x1 : Int32) (x2 : Int64) (x4 : Int64) (x6 : Int32), fX2_tellWitness_l63 σ R t n J x1 x2 x4 x6 = some J9 → WX2_tellWitness G l σ (σ, I, J9, D, R) none (σ, I, J, D, R) 63 [(0, vR (some t)), (1, vI x1), (2, vL x2), (4, vL x4), (6, vI x6)] [] := by
  intro n
  induction n with
  | zero =>
    intro J x1 x2 x4 x6 h
    have h : none = some _ := h
    cases h
  | succ n ih =>
    intro J x1 x2 x4 x6 h
    rw [fX2_tellWitness_l63] at h
    refine r_iload (pc := 63) dX2_tellWitness_63 4 rfl ?_
    refine r_iconst (pc := 65) dX2_tellWitness_65 kc_iconst_3 ?_
    refine r_icmp_ge (pc := 66) (tgt := 136) dX2_tellWitness_66 rfl (fun c => ?_) (fun c => ?_)
    · have h := it h c
      refine r_lload (pc := 136) dX2_tellWitness_136 3 rfl ?_
      refine r_lconst (pc := 138) dX2_tellWitness_138 kc_lconst_0 ?_
      refine r_lcmp (pc := 139) dX2_tellWitness_139 ?_
      refine r_ifne (pc := 140) (tgt := 144) dX2_tellWitness_140 rfl (fun c => ?_) (fun c => ?_)
      · have h := ie h (fun q => c (lgc_eq.mpr q))
        refine r_aload_n (pc := 144) dX2_tellWitness_144 rfl 0 rfl ?_
        obtain ⟨g1, h⟩ := gd h
        obtain ⟨r2, hc3, h⟩ := ob h
        refine r_callV1 (pc := 145) (av := []) (S := []) dX2_tellWitness_145 (kX2_firstSign hc3) g1 rfl mkX2_82 mwX2_firstSign rfl ⟨Nat.le_of_ble_eq_true rfl, Nat.le_of_ble_eq_true rfl⟩ (Nat.le_of_ble_eq_true rfl) ⟨Nat.le_refl _, Nat.le_refl _⟩ (fun b => b) ?_
        refine r_i2l (pc := 148) dX2_tellWitness_148 ?_
        refine r_lload (pc := 149) dX2_tellWitness_149 3 rfl ?_
        refine r_lmul (pc := 151) dX2_tellWitness_151 ?_
        refine r_lstore (pc := 152) (L' := [(6, vL ((Int32.toInt64 r2) * x4)), (0, vR (some t)), (1, vI x1), (2, vL x2), (4, vL x4)]) dX2_tellWitness_152 (by decide) rfl ?_
        refine r_iconst (pc := 154) dX2_tellWitness_154 kc_iconst_0 ?_
        refine r_istore (pc := 155) (L' := [(8, vI (0 : Int32)), (6, vL ((Int32.toInt64 r2) * x4)), (0, vR (some t)), (1, vI x1), (2, vL x2), (4, vL x4)]) dX2_tellWitness_155 (by decide) rfl ?_
        refine r_sub [2, 1, 0] rfl ?_
        exact wX2_tellWitness_l157 _ _ _ _ h
      · have h := it h (lgc_eq.mp c)
        cases h
        exact r_vret dX2_tellWitness_143
    · have h := ie h c
      refine r_aload_n (pc := 69) dX2_tellWitness_69 rfl 0 rfl ?_
      obtain ⟨g12, h⟩ := gd h
      obtain ⟨a13, ha13, h⟩ := ob h
      refine r_getS (pc := 70) dX2_tellWitness_70 fgX2_19 rfl g12 ha13 ?_
      refine r_iload_n (pc := 73) dX2_tellWitness_73 rfl 1 rfl ?_
      obtain ⟨g14, h⟩ := gd h
      obtain ⟨g15, h⟩ := gd h
      refine r_aaload (pc := 74) dX2_tellWitness_74 g14 (by decide) g15 ?_
      obtain ⟨a16, ha16, h⟩ := ob h
      refine r_ref0 ha16 ?_
      refine r_iconst (pc := 75) dX2_tellWitness_75 kc_iconst_5 ?_
      refine r_iload (pc := 76) dX2_tellWitness_76 4 rfl ?_
      refine r_iadd (pc := 78) dX2_tellWitness_78 ?_
      obtain ⟨g17, h⟩ := gd h
      obtain ⟨g18, h⟩ := gd h
      refine r_laload (pc := 79) dX2_tellWitness_79 g17 g18 ?_
      refine r_lstore (pc := 80) (L' := [(7, vL (J a16 (Int32.toNatClampNeg ((5 : Int32) + x6)))), (0, vR (some t)), (1, vI x1), (2, vL x2), (4, vL x4), (6, vI x6)]) dX2_tellWitness_80 (by decide) rfl ?_
      refine r_aload_n (pc := 82) dX2_tellWitness_82 rfl 1 rfl ?_
      obtain ⟨a20, ha20, h⟩ := ob h
      refine r_getS (pc := 83) dX2_tellWitness_83 fgX2_33 rfl g12 ha20 ?_
      refine r_iload (pc := 86) dX2_tellWitness_86 5 rfl ?_
      refine r_lload (pc := 88) dX2_tellWitness_88 0 rfl ?_
      refine r_lconst (pc := 90) dX2_tellWitness_90 kc_lconst_0 ?_
      refine r_lcmp (pc := 91) dX2_tellWitness_91 ?_
      refine r_ifne (pc := 92) (tgt := 99) dX2_tellWitness_92 rfl (fun c => ?_) (fun c => ?_)
      · have h := ie h (fun q => c (lgc_eq.mpr q))
        refine r_aload_n (pc := 99) dX2_tellWitness_99 rfl 1 rfl ?_
        obtain ⟨a21, ha21, h⟩ := ob h
        refine r_getS (pc := 100) dX2_tellWitness_100 fgX2_16 rfl g12 ha21 ?_
        refine r_iload_n (pc := 103) dX2_tellWitness_103 rfl 2 rfl ?_
        obtain ⟨g22, h⟩ := gd h
        obtain ⟨g23, h⟩ := gd h
        refine r_aaload (pc := 104) dX2_tellWitness_104 g22 (by decide) g23 ?_
        obtain ⟨a24, ha24, h⟩ := ob h
        refine r_ref0 ha24 ?_
        refine r_iconst (pc := 105) dX2_tellWitness_105 kc_iconst_5 ?_
        refine r_iload (pc := 106) dX2_tellWitness_106 5 rfl ?_
        refine r_iadd (pc := 108) dX2_tellWitness_108 ?_
        obtain ⟨g25, h⟩ := gd h
        obtain ⟨g26, h⟩ := gd h
        refine r_laload (pc := 109) dX2_tellWitness_109 g25 g26 ?_
        refine r_lload_n (pc := 110) dX2_tellWitness_110 rfl 3 rfl ?_
        refine r_lload (pc := 111) dX2_tellWitness_111 0 rfl ?_
        obtain ⟨g27, h⟩ := gd h
        refine r_ldiv (pc := 113) dX2_tellWitness_113 g27 ?_
        refine r_lmul (pc := 114) dX2_tellWitness_114 ?_
        obtain ⟨g28, h⟩ := gd h
        obtain ⟨g29, h⟩ := gd h
        refine r_lastore (pc := 115) dX2_tellWitness_115 g28 g29 ?_
        refine r_lload (pc := 116) dX2_tellWitness_116 4 rfl ?_
        refine r_aload_n (pc := 118) dX2_tellWitness_118 rfl 1 rfl ?_
        refine r_getS (pc := 119) dX2_tellWitness_119 fgX2_33 rfl g12 ha20 ?_
        refine r_iload (pc := 122) dX2_tellWitness_122 5 rfl ?_
        refine r_laload (pc := 124) dX2_tellWitness_124 g28 g29 ?_
        obtain ⟨r31, hc32, h⟩ := ob h
        refine r_callS1 (pc := 125) (av := [vL x4, vL ((u2 J a20 (Int32.toNatClampNeg x6) ((J a24 (Int32.toNatClampNeg ((5 : Int32) + x6))) * (x2 / (J a16 (Int32.toNatClampNeg ((5 : Int32) + x6)))))) a20 (Int32.toNatClampNeg x6))]) (S := []) dX2_tellWitness_125 (kX2_commonDivisor hc32) mkX2_72 mwX2_commonDivisor rfl ⟨Nat.le_of_ble_eq_true rfl, Nat.le_of_ble_eq_true rfl⟩ (Nat.le_of_ble_eq_true rfl) ⟨Nat.le_refl _, Nat.le_refl _⟩ (fun b => b) ?_
        refine r_lstore (pc := 128) (L' := [(4, vL r31), (7, vL (J a16 (Int32.toNatClampNeg ((5 : Int32) + x6)))), (0, vR (some t)), (1, vI x1), (2, vL x2), (6, vI x6)]) dX2_tellWitness_128 (by decide) rfl ?_
        refine r_iinc (pc := 130) (v := (x6 + (1 : Int32))) (L' := [(6, vI (x6 + (1 : Int32))), (4, vL r31), (7, vL (J a16 (Int32.toNatClampNeg ((5 : Int32) + x6)))), (0, vR (some t)), (1, vI x1), (2, vL x2)]) dX2_tellWitness_130 5 rfl (kc_inc_1 _) (by decide) rfl ?_
        refine r_goto (pc := 133) (tgt := 63) dX2_tellWitness_133 rfl ?_
        refine r_sub [3, 4, 5, 1, 0] rfl ?_
        exact ih _ _ _ _ _ h
      · have h := it h (lgc_eq.mp c)
        refine r_lconst (pc := 95) dX2_tellWitness_95 kc_lconst_0 ?_
        refine r_goto (pc := 96) (tgt := 115) dX2_tellWitness_96 rfl ?_
        obtain ⟨g34, h⟩ := gd h
        obtain ⟨g35, h⟩ := gd h
        refine r_lastore (pc := 115) dX2_tellWitness_115 g34 g35 ?_
        refine r_lload (pc := 116) dX2_tellWitness_116 4 rfl ?_
        refine r_aload_n (pc := 118) dX2_tellWitness_118 rfl 1 rfl ?_
        refine r_getS (pc := 119) dX2_tellWitness_119 fgX2_33 rfl g12 ha20 ?_
        refine r_iload (pc := 122) dX2_tellWitness_122 5 rfl ?_
        refine r_laload (pc := 124) dX2_tellWitness_124 g34 g35 ?_
        obtain ⟨r37, hc38, h⟩ := ob h
        refine r_callS1 (pc := 125) (av := [vL x4, vL ((u2 J a20 (Int32.toNatClampNeg x6) (0 : Int64)) a20 (Int32.toNatClampNeg x6))]) (S := []) dX2_tellWitness_125 (kX2_commonDivisor hc38) mkX2_72 mwX2_commonDivisor rfl ⟨Nat.le_of_ble_eq_true rfl, Nat.le_of_ble_eq_true rfl⟩ (Nat.le_of_ble_eq_true rfl) ⟨Nat.le_refl _, Nat.le_refl _⟩ (fun b => b) ?_
        refine r_lstore (pc := 128) (L' := [(4, vL r37), (7, vL (J a16 (Int32.toNatClampNeg ((5 : Int32) + x6)))), (0, vR (some t)), (1, vI x1), (2, vL x2), (6, vI x6)]) dX2_tellWitness_128 (by decide) rfl ?_
        refine r_iinc (pc := 130) (v := (x6 + (1 : Int32))) (L' := [(6, vI (x6 + (1 : Int32))), (4, vL r37), (7, vL (J a16 (Int32.toNatClampNeg ((5 : Int32) + x6)))), (0, vR (some t)), (1, vI x1), (2, vL x2)]) dX2_tellWitness_130 5 rfl (kc_inc_1 _) (by decide) rfl ?_
        refine r_goto (pc := 133) (tgt := 63) dX2_tellWitness_133 rfl ?_
        refine r_sub [3, 4, 5, 1, 0] rfl ?_
        exact ih _ _ _ _ _ h
def fX2_tellWitness_l5  (σ : Shp) (R : Nat → Nat → Option Nat) (t : Nat) : Nat → (Nat → Nat → Int64) → (Int32) → (Int64) → (Int32) → Option ((Nat → Nat → Int64))
  | 0, _, _, _, _ => none
  | n + 1, J, x1, x2, x4 =>
    if (3 : Int32) ≤ x4 then
      fX2_tellWitness_l63 σ R t FUx J x1 x2 (0 : Int64) (0 : Int32)
    else
      if kdx σ t = 3 then
      ((R t 2) : Option Nat).bind fun a41 =>
      if kdx σ a41 = 29 then
      if ¬ (x1 < 0 ∨ lnx σ a41 ≤ Int32.toNatClampNeg x1) then
      ((R a41 (Int32.toNatClampNeg x1)) : Option Nat).bind fun a44 =>
      if kdx σ a44 = 21 then
      if ¬ (((5 : Int32) + x4) < 0 ∨ lnx σ a44 ≤ Int32.toNatClampNeg ((5 : Int32) + x4)) then
      let v47 := (J a44 (Int32.toNatClampNeg ((5 : Int32) + x4)))
      (fX2_commonDivisor x2 v47).bind fun r48 =>
      if r48 = (0 : Int64) then
        let v53 := x4 + (1 : Int32)
        fX2_tellWitness_l5 σ R t n J x1 x2 v53
      else
        if ¬ r48 = 0 then
        let v51 := ((x2 / r48) * v47)
        let v52 := x4 + (1 : Int32)
        fX2_tellWitness_l5 σ R t n J x1 v51 v52
        else none
      else none
      else none
      else none
      else none
      else none
theorem wX2_tellWitness_l5 {G : Gx} {l : Launch} {σ : Shp} {I : Nat → Nat → Int32} {D : Nat → Nat → UInt64} {R : Nat → Nat → Option Nat} {t : Nat} {J9 : Nat → Nat → Int64} : ∀ (n : Nat) (J : Nat → Nat → Int64) (x1 : Int32) (x2 : Int64) (x4 : Int32), fX2_tellWitness_l5 σ R t n J x1 x2 x4 = some J9 → WX2_tellWitness G l σ (σ, I, J9, D, R) none (σ, I, J, D, R) 5 [(0, vR (some t)), (1, vI x1), (2, vL x2), (4, vI x4)] [] := by
  intro n
  induction n with
  | zero =>
    intro J x1 x2 x4 h
    have h : none = some _ := h
    cases h
  | succ n ih =>
    intro J x1 x2 x4 h
    rw [fX2_tellWitness_l5] at h
    refine r_iload (pc := 5) dX2_tellWitness_5 3 rfl ?_
    refine r_iconst (pc := 7) dX2_tellWitness_7 kc_iconst_3 ?_
    refine r_icmp_ge (pc := 8) (tgt := 57) dX2_tellWitness_8 rfl (fun c => ?_) (fun c => ?_)
    · have h := it h c
      refine r_lconst (pc := 57) dX2_tellWitness_57 kc_lconst_0 ?_
      refine r_lstore (pc := 58) (L' := [(4, vL (0 : Int64)), (0, vR (some t)), (1, vI x1), (2, vL x2)]) dX2_tellWitness_58 (by decide) rfl ?_
      refine r_iconst (pc := 60) dX2_tellWitness_60 kc_iconst_0 ?_
      refine r_istore (pc := 61) (L' := [(6, vI (0 : Int32)), (4, vL (0 : Int64)), (0, vR (some t)), (1, vI x1), (2, vL x2)]) dX2_tellWitness_61 (by decide) rfl ?_
      refine r_sub [2, 3, 4, 1, 0] rfl ?_
      exact wX2_tellWitness_l63 _ _ _ _ _ _ h
    · have h := ie h c
      refine r_aload_n (pc := 11) dX2_tellWitness_11 rfl 0 rfl ?_
      obtain ⟨g40, h⟩ := gd h
      obtain ⟨a41, ha41, h⟩ := ob h
      refine r_getS (pc := 12) dX2_tellWitness_12 fgX2_19 rfl g40 ha41 ?_
      refine r_iload_n (pc := 15) dX2_tellWitness_15 rfl 1 rfl ?_
      obtain ⟨g42, h⟩ := gd h
      obtain ⟨g43, h⟩ := gd h
      refine r_aaload (pc := 16) dX2_tellWitness_16 g42 (by decide) g43 ?_
      obtain ⟨a44, ha44, h⟩ := ob h
      refine r_ref0 ha44 ?_
      refine r_iconst (pc := 17) dX2_tellWitness_17 kc_iconst_5 ?_
      refine r_iload (pc := 18) dX2_tellWitness_18 3 rfl ?_
      refine r_iadd (pc := 20) dX2_tellWitness_20 ?_
      obtain ⟨g45, h⟩ := gd h
      obtain ⟨g46, h⟩ := gd h
      refine r_laload (pc := 21) dX2_tellWitness_21 g45 g46 ?_
      refine r_lstore (pc := 22) (L' := [(5, vL (J a44 (Int32.toNatClampNeg ((5 : Int32) + x4)))), (0, vR (some t)), (1, vI x1), (2, vL x2), (4, vI x4)]) dX2_tellWitness_22 (by decide) rfl ?_
      refine r_lload_n (pc := 24) dX2_tellWitness_24 rfl 3 rfl ?_
      refine r_lload (pc := 25) dX2_tellWitness_25 0 rfl ?_
      obtain ⟨r48, hc49, h⟩ := ob h
      refine r_callS1 (pc := 27) (av := [vL x2, vL (J a44 (Int32.toNatClampNeg ((5 : Int32) + x4)))]) (S := []) dX2_tellWitness_27 (kX2_commonDivisor hc49) mkX2_72 mwX2_commonDivisor rfl ⟨Nat.le_of_ble_eq_true rfl, Nat.le_of_ble_eq_true rfl⟩ (Nat.le_of_ble_eq_true rfl) ⟨Nat.le_refl _, Nat.le_refl _⟩ (fun b => b) ?_
      refine r_lstore (pc := 30) (L' := [(7, vL r48), (5, vL (J a44 (Int32.toNatClampNeg ((5 : Int32) + x4)))), (0, vR (some t)), (1, vI x1), (2, vL x2), (4, vI x4)]) dX2_tellWitness_30 (by decide) rfl ?_
      refine r_lload (pc := 32) dX2_tellWitness_32 0 rfl ?_
      refine r_lconst (pc := 34) dX2_tellWitness_34 kc_lconst_0 ?_
      refine r_lcmp (pc := 35) dX2_tellWitness_35 ?_
      refine r_ifne (pc := 36) (tgt := 43) dX2_tellWitness_36 rfl (fun c => ?_) (fun c => ?_)
      · have h := ie h (fun q => c (lgc_eq.mpr q))
        refine r_lload_n (pc := 43) dX2_tellWitness_43 rfl 4 rfl ?_
        refine r_lload (pc := 44) dX2_tellWitness_44 0 rfl ?_
        obtain ⟨g50, h⟩ := gd h
        refine r_ldiv (pc := 46) dX2_tellWitness_46 g50 ?_
        refine r_lload (pc := 47) dX2_tellWitness_47 1 rfl ?_
        refine r_lmul (pc := 49) dX2_tellWitness_49 ?_
        refine r_lstore_n (pc := 50) (L' := [(2, vL ((x2 / r48) * (J a44 (Int32.toNatClampNeg ((5 : Int32) + x4))))), (7, vL r48), (5, vL (J a44 (Int32.toNatClampNeg ((5 : Int32) + x4)))), (0, vR (some t)), (1, vI x1), (4, vI x4)]) dX2_tellWitness_50 rfl (by decide) rfl ?_
        refine r_iinc (pc := 51) (v := (x4 + (1 : Int32))) (L' := [(4, vI (x4 + (1 : Int32))), (2, vL ((x2 / r48) * (J a44 (Int32.toNatClampNeg ((5 : Int32) + x4))))), (7, vL r48), (5, vL (J a44 (Int32.toNatClampNeg ((5 : Int32) + x4)))), (0, vR (some t)), (1, vI x1)]) dX2_tellWitness_51 5 rfl (kc_inc_1 _) (by decide) rfl ?_
        refine r_goto (pc := 54) (tgt := 5) dX2_tellWitness_54 rfl ?_
        refine r_sub [4, 5, 1, 0] rfl ?_
        exact ih _ _ _ _ h
      · have h := it h (lgc_eq.mp c)
        refine r_lload_n (pc := 39) dX2_tellWitness_39 rfl 4 rfl ?_
        refine r_goto (pc := 40) (tgt := 50) dX2_tellWitness_40 rfl ?_
        refine r_lstore_n (pc := 50) (L' := [(2, vL x2), (7, vL r48), (5, vL (J a44 (Int32.toNatClampNeg ((5 : Int32) + x4)))), (0, vR (some t)), (1, vI x1), (4, vI x4)]) dX2_tellWitness_50 rfl (by decide) rfl ?_
        refine r_iinc (pc := 51) (v := (x4 + (1 : Int32))) (L' := [(4, vI (x4 + (1 : Int32))), (2, vL x2), (7, vL r48), (5, vL (J a44 (Int32.toNatClampNeg ((5 : Int32) + x4)))), (0, vR (some t)), (1, vI x1)]) dX2_tellWitness_51 5 rfl (kc_inc_1 _) (by decide) rfl ?_
        refine r_goto (pc := 54) (tgt := 5) dX2_tellWitness_54 rfl ?_
        refine r_sub [4, 5, 1, 0] rfl ?_
        exact ih _ _ _ _ h
def fX2_tellWitness (σ : Shp) (J : Nat → Nat → Int64) (R : Nat → Nat → Option Nat) (t : Nat) (x1 : Int32) : Option ((Nat → Nat → Int64)) :=
  fX2_tellWitness_l5 σ R t FUx J x1 (1 : Int64) (0 : Int32)
theorem kX2_tellWitness {G : Gx} {l : Launch} {σ : Shp} {I : Nat → Nat → Int32} {J : Nat → Nat → Int64} {D : Nat → Nat → UInt64} {R : Nat → Nat → Option Nat} {t : Nat} {x1 : Int32} {J9 : Nat → Nat → Int64} (h : fX2_tellWitness σ J R t x1 = some J9) : Con G l yX2_tellWitness cX2_tellWitness 9 none 2 51 [vR (some t), vI x1] (σ, I, J, D, R) (σ, I, J9, D, R) none := by
  unfold fX2_tellWitness at h
  refine Con.mk (by decide +kernel) rfl (Nat.le_of_ble_eq_true rfl) ?_
  show WX2_tellWitness G l σ (σ, I, J9, D, R) none (σ, I, J, D, R) 0 _ []
  refine r_lconst (pc := 0) dX2_tellWitness_0 kc_lconst_1 ?_
  refine r_lstore_n (pc := 1) (L' := [(2, vL (1 : Int64)), (0, vR (some t)), (1, vI x1)]) dX2_tellWitness_1 rfl (by decide) rfl ?_
  refine r_iconst (pc := 2) dX2_tellWitness_2 kc_iconst_0 ?_
  refine r_istore (pc := 3) (L' := [(4, vI (0 : Int32)), (2, vL (1 : Int64)), (0, vR (some t)), (1, vI x1)]) dX2_tellWitness_3 (by decide) rfl ?_
  refine r_sub [2, 3, 1, 0] rfl ?_
  exact wX2_tellWitness_l5 _ _ _ _ _ h
abbrev WX2_changePlaces (G : Gx) (l : Launch) (σ0 : Shp) (X1 : Stt) (rv : Option SV) : Stt → Nat → List (Nat × SV) → List SV → Prop := Wm G l yX2_changePlaces cX2_changePlaces 6 none (fun _ => True) (rmx 0 0 σ0 X1.1) σ0 (Qmx G σ0 X1 rv)
def fX2_changePlaces_l2  (σ : Shp) (R : Nat → Nat → Option Nat) (t : Nat) : Nat → (Nat → Nat → Int64) → (Int32) → (Int32) → (Int32) → Option ((Nat → Nat → Int64))
  | 0, _, _, _, _ => none
  | n + 1, J, x1, x2, x3 =>
    if (8 : Int32) ≤ x3 then
      some J
    else
      if kdx σ t = 3 then
      ((R t 1) : Option Nat).bind fun a2 =>
      if kdx σ a2 = 29 then
      if ¬ (x1 < 0 ∨ lnx σ a2 ≤ Int32.toNatClampNeg x1) then
      ((R a2 (Int32.toNatClampNeg x1)) : Option Nat).bind fun a5 =>
      if kdx σ a5 = 21 then
      if ¬ (x3 < 0 ∨ lnx σ a5 ≤ Int32.toNatClampNeg x3) then
      let v8 := (J a5 (Int32.toNatClampNeg x3))
      if ¬ (x2 < 0 ∨ lnx σ a2 ≤ Int32.toNatClampNeg x2) then
      ((R a2 (Int32.toNatClampNeg x2)) : Option Nat).bind fun a10 =>
      if kdx σ a10 = 21 then
      if ¬ (x3 < 0 ∨ lnx σ a10 ≤ Int32.toNatClampNeg x3) then
      let J13 := u2 J a5 (Int32.toNatClampNeg x3) (J a10 (Int32.toNatClampNeg x3))
      let J14 := u2 J13 a10 (Int32.toNatClampNeg x3) v8
      ((R t 2) : Option Nat).bind fun a15 =>
      if kdx σ a15 = 29 then
      if ¬ (x1 < 0 ∨ lnx σ a15 ≤ Int32.toNatClampNeg x1) then
      ((R a15 (Int32.toNatClampNeg x1)) : Option Nat).bind fun a18 =>
      if kdx σ a18 = 21 then
      if ¬ (x3 < 0 ∨ lnx σ a18 ≤ Int32.toNatClampNeg x3) then
      let v21 := (J14 a18 (Int32.toNatClampNeg x3))
      if ¬ (x2 < 0 ∨ lnx σ a15 ≤ Int32.toNatClampNeg x2) then
      ((R a15 (Int32.toNatClampNeg x2)) : Option Nat).bind fun a23 =>
      if kdx σ a23 = 21 then
      if ¬ (x3 < 0 ∨ lnx σ a23 ≤ Int32.toNatClampNeg x3) then
      let J26 := u2 J14 a18 (Int32.toNatClampNeg x3) (J14 a23 (Int32.toNatClampNeg x3))
      let J27 := u2 J26 a23 (Int32.toNatClampNeg x3) v21
      let v28 := x3 + (1 : Int32)
      fX2_changePlaces_l2 σ R t n J27 x1 x2 v28
      else none
      else none
      else none
      else none
      else none
      else none
      else none
      else none
      else none
      else none
      else none
      else none
      else none
      else none
      else none
theorem wX2_changePlaces_l2 {G : Gx} {l : Launch} {σ : Shp} {I : Nat → Nat → Int32} {D : Nat → Nat → UInt64} {R : Nat → Nat → Option Nat} {t : Nat} {J9 : Nat → Nat → Int64} : ∀ (n : Nat) (J : Nat → Nat → Int64) (x1 : Int32) (x2 : Int32) (x3 : Int32), fX2_changePlaces_l2 σ R t n J x1 x2 x3 = some J9 → WX2_changePlaces G l σ (σ, I, J9, D, R) none (σ, I, J, D, R) 2 [(0, vR (some t)), (1, vI x1), (2, vI x2), (3, vI x3)] [] := by
  intro n
  induction n with
  | zero =>
    intro J x1 x2 x3 h
    have h : none = some _ := h
    cases h
  | succ n ih =>
    intro J x1 x2 x3 h
    rw [fX2_changePlaces_l2] at h
    refine r_iload_n (pc := 2) dX2_changePlaces_2 rfl 3 rfl ?_
    refine r_bipush (pc := 3) dX2_changePlaces_3 kc_bipush_8 ?_
    refine r_icmp_ge (pc := 5) (tgt := 86) dX2_changePlaces_5 rfl (fun c => ?_) (fun c => ?_)
    · have h := it h c
      cases h
      exact r_vret dX2_changePlaces_86
    · have h := ie h c
      refine r_aload_n (pc := 8) dX2_changePlaces_8 rfl 0 rfl ?_
      obtain ⟨g1, h⟩ := gd h
      obtain ⟨a2, ha2, h⟩ := ob h
      refine r_getS (pc := 9) dX2_changePlaces_9 fgX2_16 rfl g1 ha2 ?_
      refine r_iload_n (pc := 12) dX2_changePlaces_12 rfl 1 rfl ?_
      obtain ⟨g3, h⟩ := gd h
      obtain ⟨g4, h⟩ := gd h
      refine r_aaload (pc := 13) dX2_changePlaces_13 g3 (by decide) g4 ?_
      obtain ⟨a5, ha5, h⟩ := ob h
      refine r_ref0 ha5 ?_
      refine r_iload_n (pc := 14) dX2_changePlaces_14 rfl 3 rfl ?_
      obtain ⟨g6, h⟩ := gd h
      obtain ⟨g7, h⟩ := gd h
      refine r_laload (pc := 15) dX2_changePlaces_15 g6 g7 ?_
      refine r_lstore (pc := 16) (L' := [(4, vL (J a5 (Int32.toNatClampNeg x3))), (0, vR (some t)), (1, vI x1), (2, vI x2), (3, vI x3)]) dX2_changePlaces_16 (by decide) rfl ?_
      refine r_aload_n (pc := 18) dX2_changePlaces_18 rfl 1 rfl ?_
      refine r_getS (pc := 19) dX2_changePlaces_19 fgX2_16 rfl g1 ha2 ?_
      refine r_iload_n (pc := 22) dX2_changePlaces_22 rfl 2 rfl ?_
      refine r_aaload (pc := 23) dX2_changePlaces_23 g3 (by decide) g4 ?_
      refine r_ref0 ha5 ?_
      refine r_iload_n (pc := 24) dX2_changePlaces_24 rfl 4 rfl ?_
      refine r_aload_n (pc := 25) dX2_changePlaces_25 rfl 1 rfl ?_
      refine r_getS (pc := 26) dX2_changePlaces_26 fgX2_16 rfl g1 ha2 ?_
      refine r_iload_n (pc := 29) dX2_changePlaces_29 rfl 3 rfl ?_
      obtain ⟨g9, h⟩ := gd h
      refine r_aaload (pc := 30) dX2_changePlaces_30 g3 (by decide) g9 ?_
      obtain ⟨a10, ha10, h⟩ := ob h
      refine r_ref0 ha10 ?_
      refine r_iload_n (pc := 31) dX2_changePlaces_31 rfl 4 rfl ?_
      obtain ⟨g11, h⟩ := gd h
      obtain ⟨g12, h⟩ := gd h
      refine r_laload (pc := 32) dX2_changePlaces_32 g11 g12 ?_
      refine r_lastore (pc := 33) dX2_changePlaces_33 g6 g7 ?_
      refine r_aload_n (pc := 34) dX2_changePlaces_34 rfl 1 rfl ?_
      refine r_getS (pc := 35) dX2_changePlaces_35 fgX2_16 rfl g1 ha2 ?_
      refine r_iload_n (pc := 38) dX2_changePlaces_38 rfl 3 rfl ?_
      refine r_aaload (pc := 39) dX2_changePlaces_39 g3 (by decide) g9 ?_
      refine r_ref0 ha10 ?_
      refine r_iload_n (pc := 40) dX2_changePlaces_40 rfl 4 rfl ?_
      refine r_lload (pc := 41) dX2_changePlaces_41 0 rfl ?_
      refine r_lastore (pc := 43) dX2_changePlaces_43 g11 g12 ?_
      refine r_aload_n (pc := 44) dX2_changePlaces_44 rfl 1 rfl ?_
      obtain ⟨a15, ha15, h⟩ := ob h
      refine r_getS (pc := 45) dX2_changePlaces_45 fgX2_19 rfl g1 ha15 ?_
      refine r_iload_n (pc := 48) dX2_changePlaces_48 rfl 2 rfl ?_
      obtain ⟨g16, h⟩ := gd h
      obtain ⟨g17, h⟩ := gd h
      refine r_aaload (pc := 49) dX2_changePlaces_49 g16 (by decide) g17 ?_
      obtain ⟨a18, ha18, h⟩ := ob h
      refine r_ref0 ha18 ?_
      refine r_iload_n (pc := 50) dX2_changePlaces_50 rfl 4 rfl ?_
      obtain ⟨g19, h⟩ := gd h
      obtain ⟨g20, h⟩ := gd h
      refine r_laload (pc := 51) dX2_changePlaces_51 g19 g20 ?_
      refine r_lstore (pc := 52) (L' := [(4, vL ((u2 (u2 J a5 (Int32.toNatClampNeg x3) (J a10 (Int32.toNatClampNeg x3))) a10 (Int32.toNatClampNeg x3) (J a5 (Int32.toNatClampNeg x3))) a18 (Int32.toNatClampNeg x3))), (0, vR (some t)), (1, vI x1), (2, vI x2), (3, vI x3)]) dX2_changePlaces_52 (by decide) rfl ?_
      refine r_aload_n (pc := 54) dX2_changePlaces_54 rfl 1 rfl ?_
      refine r_getS (pc := 55) dX2_changePlaces_55 fgX2_19 rfl g1 ha15 ?_
      refine r_iload_n (pc := 58) dX2_changePlaces_58 rfl 2 rfl ?_
      refine r_aaload (pc := 59) dX2_changePlaces_59 g16 (by decide) g17 ?_
      refine r_ref0 ha18 ?_
      refine r_iload_n (pc := 60) dX2_changePlaces_60 rfl 4 rfl ?_
      refine r_aload_n (pc := 61) dX2_changePlaces_61 rfl 1 rfl ?_
      refine r_getS (pc := 62) dX2_changePlaces_62 fgX2_19 rfl g1 ha15 ?_
      refine r_iload_n (pc := 65) dX2_changePlaces_65 rfl 3 rfl ?_
      obtain ⟨g22, h⟩ := gd h
      refine r_aaload (pc := 66) dX2_changePlaces_66 g16 (by decide) g22 ?_
      obtain ⟨a23, ha23, h⟩ := ob h
      refine r_ref0 ha23 ?_
      refine r_iload_n (pc := 67) dX2_changePlaces_67 rfl 4 rfl ?_
      obtain ⟨g24, h⟩ := gd h
      obtain ⟨g25, h⟩ := gd h
      refine r_laload (pc := 68) dX2_changePlaces_68 g24 g25 ?_
      refine r_lastore (pc := 69) dX2_changePlaces_69 g19 g20 ?_
      refine r_aload_n (pc := 70) dX2_changePlaces_70 rfl 1 rfl ?_
      refine r_getS (pc := 71) dX2_changePlaces_71 fgX2_19 rfl g1 ha15 ?_
      refine r_iload_n (pc := 74) dX2_changePlaces_74 rfl 3 rfl ?_
      refine r_aaload (pc := 75) dX2_changePlaces_75 g16 (by decide) g22 ?_
      refine r_ref0 ha23 ?_
      refine r_iload_n (pc := 76) dX2_changePlaces_76 rfl 4 rfl ?_
      refine r_lload (pc := 77) dX2_changePlaces_77 0 rfl ?_
      refine r_lastore (pc := 79) dX2_changePlaces_79 g24 g25 ?_
      refine r_iinc (pc := 80) (v := (x3 + (1 : Int32))) (L' := [(3, vI (x3 + (1 : Int32))), (4, vL ((u2 (u2 J a5 (Int32.toNatClampNeg x3) (J a10 (Int32.toNatClampNeg x3))) a10 (Int32.toNatClampNeg x3) (J a5 (Int32.toNatClampNeg x3))) a18 (Int32.toNatClampNeg x3))), (0, vR (some t)), (1, vI x1), (2, vI x2)]) dX2_changePlaces_80 4 rfl (kc_inc_1 _) (by decide) rfl ?_
      refine r_goto (pc := 83) (tgt := 2) dX2_changePlaces_83 rfl ?_
      refine r_sub [2, 3, 4, 0] rfl ?_
      exact ih _ _ _ _ h
def fX2_changePlaces (σ : Shp) (J : Nat → Nat → Int64) (R : Nat → Nat → Option Nat) (t : Nat) (x1 : Int32) (x2 : Int32) : Option ((Nat → Nat → Int64)) :=
  fX2_changePlaces_l2 σ R t FUx J x1 x2 (0 : Int32)
theorem kX2_changePlaces {G : Gx} {l : Launch} {σ : Shp} {I : Nat → Nat → Int32} {J : Nat → Nat → Int64} {D : Nat → Nat → UInt64} {R : Nat → Nat → Option Nat} {t : Nat} {x1 : Int32} {x2 : Int32} {J9 : Nat → Nat → Int64} (h : fX2_changePlaces σ J R t x1 x2 = some J9) : Con G l yX2_changePlaces cX2_changePlaces 6 none 0 0 [vR (some t), vI x1, vI x2] (σ, I, J, D, R) (σ, I, J9, D, R) none := by
  unfold fX2_changePlaces at h
  refine Con.mk (by decide +kernel) rfl (Nat.le_of_ble_eq_true rfl) ?_
  show WX2_changePlaces G l σ (σ, I, J9, D, R) none (σ, I, J, D, R) 0 _ []
  refine r_iconst (pc := 0) dX2_changePlaces_0 kc_iconst_0 ?_
  refine r_istore_n (pc := 1) (L' := [(3, vI (0 : Int32)), (0, vR (some t)), (1, vI x1), (2, vI x2)]) dX2_changePlaces_1 rfl (by decide) rfl ?_
  refine r_sub [1, 2, 3, 0] rfl ?_
  exact wX2_changePlaces_l2 _ _ _ _ _ h
abbrev WX2_becomesFraction (G : Gx) (l : Launch) (σ0 : Shp) (X1 : Stt) (rv : Option SV) : Stt → Nat → List (Nat × SV) → List SV → Prop := Wm G l yX2_becomesFraction cX2_becomesFraction 11 none (fun _ => True) (rmx 2 51 σ0 X1.1) σ0 (Qmx G σ0 X1 rv)
def fX2_becomesFraction_b31  (σ : Shp) (R : Nat → Nat → Option Nat) (t : Nat) (J : Nat → Nat → Int64) (x1 : Int32) (x2 : Int32) (x3 : Int64) (x5 : Int64) (s0 : Int64) : Option ((Nat → Nat → Int64)) :=
  if kdx σ t = 3 then
  ((R t 1) : Option Nat).bind fun a4 =>
  if kdx σ a4 = 29 then
  if ¬ (x1 < 0 ∨ lnx σ a4 ≤ Int32.toNatClampNeg x1) then
  ((R a4 (Int32.toNatClampNeg x1)) : Option Nat).bind fun a7 =>
  if ¬ s0 = 0 then
  if kdx σ a7 = 21 then
  if ¬ (x2 < 0 ∨ lnx σ a7 ≤ Int32.toNatClampNeg x2) then
  let J11 := u2 J a7 (Int32.toNatClampNeg x2) (x3 / s0)
  ((R t 2) : Option Nat).bind fun a12 =>
  if kdx σ a12 = 29 then
  if ¬ (x1 < 0 ∨ lnx σ a12 ≤ Int32.toNatClampNeg x1) then
  ((R a12 (Int32.toNatClampNeg x1)) : Option Nat).bind fun a15 =>
  if kdx σ a15 = 21 then
  if ¬ (x2 < 0 ∨ lnx σ a15 ≤ Int32.toNatClampNeg x2) then
  let J18 := u2 J11 a15 (Int32.toNatClampNeg x2) (x5 / s0)
  some J18
  else none
  else none
  else none
  else none
  else none
  else none
  else none
  else none
  else none
  else none
theorem wX2_becomesFraction_b31 {G : Gx} {l : Launch} {σ : Shp} {I : Nat → Nat → Int32} {J : Nat → Nat → Int64} {D : Nat → Nat → UInt64} {R : Nat → Nat → Option Nat} {t : Nat} {J9 : Nat → Nat → Int64} {x1 : Int32} {x2 : Int32} {x3 : Int64} {x5 : Int64} {s0 : Int64} (h : fX2_becomesFraction_b31 σ R t J x1 x2 x3 x5 s0 = some J9) : WX2_becomesFraction G l σ (σ, I, J9, D, R) none (σ, I, J, D, R) 31 [(0, vR (some t)), (1, vI x1), (2, vI x2), (3, vL x3), (5, vL x5)] [vL s0] := by
  unfold fX2_becomesFraction_b31 at h
  refine r_lstore (pc := 31) (L' := [(9, vL s0), (0, vR (some t)), (1, vI x1), (2, vI x2), (3, vL x3), (5, vL x5)]) dX2_becomesFraction_31 (by decide) rfl ?_
  refine r_aload_n (pc := 33) dX2_becomesFraction_33 rfl 1 rfl ?_
  obtain ⟨g3, h⟩ := gd h
  obtain ⟨a4, ha4, h⟩ := ob h
  refine r_getS (pc := 34) dX2_becomesFraction_34 fgX2_16 rfl g3 ha4 ?_
  refine r_iload_n (pc := 37) dX2_becomesFraction_37 rfl 2 rfl ?_
  obtain ⟨g5, h⟩ := gd h
  obtain ⟨g6, h⟩ := gd h
  refine r_aaload (pc := 38) dX2_becomesFraction_38 g5 (by decide) g6 ?_
  obtain ⟨a7, ha7, h⟩ := ob h
  refine r_ref0 ha7 ?_
  refine r_iload_n (pc := 39) dX2_becomesFraction_39 rfl 3 rfl ?_
  refine r_lload_n (pc := 40) dX2_becomesFraction_40 rfl 4 rfl ?_
  refine r_lload (pc := 41) dX2_becomesFraction_41 0 rfl ?_
  obtain ⟨g8, h⟩ := gd h
  refine r_ldiv (pc := 43) dX2_becomesFraction_43 g8 ?_
  obtain ⟨g9, h⟩ := gd h
  obtain ⟨g10, h⟩ := gd h
  refine r_lastore (pc := 44) dX2_becomesFraction_44 g9 g10 ?_
  refine r_aload_n (pc := 45) dX2_becomesFraction_45 rfl 1 rfl ?_
  obtain ⟨a12, ha12, h⟩ := ob h
  refine r_getS (pc := 46) dX2_becomesFraction_46 fgX2_19 rfl g3 ha12 ?_
  refine r_iload_n (pc := 49) dX2_becomesFraction_49 rfl 2 rfl ?_
  obtain ⟨g13, h⟩ := gd h
  obtain ⟨g14, h⟩ := gd h
  refine r_aaload (pc := 50) dX2_becomesFraction_50 g13 (by decide) g14 ?_
  obtain ⟨a15, ha15, h⟩ := ob h
  refine r_ref0 ha15 ?_
  refine r_iload_n (pc := 51) dX2_becomesFraction_51 rfl 3 rfl ?_
  refine r_lload (pc := 52) dX2_becomesFraction_52 5 rfl ?_
  refine r_lload (pc := 54) dX2_becomesFraction_54 0 rfl ?_
  refine r_ldiv (pc := 56) dX2_becomesFraction_56 g8 ?_
  obtain ⟨g16, h⟩ := gd h
  obtain ⟨g17, h⟩ := gd h
  refine r_lastore (pc := 57) dX2_becomesFraction_57 g16 g17 ?_
  cases h
  exact r_vret dX2_becomesFraction_58
def fX2_becomesFraction (σ : Shp) (J : Nat → Nat → Int64) (R : Nat → Nat → Option Nat) (t : Nat) (x1 : Int32) (x2 : Int32) (x3 : Int64) (x5 : Int64) : Option ((Nat → Nat → Int64)) :=
  (fX2_commonDivisor x3 x5).bind fun r1 =>
  if r1 = (0 : Int64) then
    some J
  else
    if (0 : Int64) ≤ x5 then
      fX2_becomesFraction_b31 σ R t J x1 x2 x3 x5 r1
    else
      fX2_becomesFraction_b31 σ R t J x1 x2 x3 x5 (-r1)
theorem kX2_becomesFraction {G : Gx} {l : Launch} {σ : Shp} {I : Nat → Nat → Int32} {J : Nat → Nat → Int64} {D : Nat → Nat → UInt64} {R : Nat → Nat → Option Nat} {t : Nat} {x1 : Int32} {x2 : Int32} {x3 : Int64} {x5 : Int64} {J9 : Nat → Nat → Int64} (h : fX2_becomesFraction σ J R t x1 x2 x3 x5 = some J9) : Con G l yX2_becomesFraction cX2_becomesFraction 11 none 2 51 [vR (some t), vI x1, vI x2, vL x3, vL x5] (σ, I, J, D, R) (σ, I, J9, D, R) none := by
  unfold fX2_becomesFraction at h
  refine Con.mk (by decide +kernel) rfl (Nat.le_of_ble_eq_true rfl) ?_
  show WX2_becomesFraction G l σ (σ, I, J9, D, R) none (σ, I, J, D, R) 0 _ []
  refine r_lload_n (pc := 0) dX2_becomesFraction_0 rfl 3 rfl ?_
  refine r_lload (pc := 1) dX2_becomesFraction_1 4 rfl ?_
  obtain ⟨r1, hc2, h⟩ := ob h
  refine r_callS1 (pc := 3) (av := [vL x3, vL x5]) (S := []) dX2_becomesFraction_3 (kX2_commonDivisor hc2) mkX2_72 mwX2_commonDivisor rfl ⟨Nat.le_of_ble_eq_true rfl, Nat.le_of_ble_eq_true rfl⟩ (Nat.le_of_ble_eq_true rfl) ⟨Nat.le_refl _, Nat.le_refl _⟩ (fun b => b) ?_
  refine r_lstore (pc := 6) (L' := [(7, vL r1), (0, vR (some t)), (1, vI x1), (2, vI x2), (3, vL x3), (5, vL x5)]) dX2_becomesFraction_6 (by decide) rfl ?_
  refine r_lload (pc := 8) dX2_becomesFraction_8 0 rfl ?_
  refine r_lconst (pc := 10) dX2_becomesFraction_10 kc_lconst_0 ?_
  refine r_lcmp (pc := 11) dX2_becomesFraction_11 ?_
  refine r_ifne (pc := 12) (tgt := 16) dX2_becomesFraction_12 rfl (fun c => ?_) (fun c => ?_)
  · have h := ie h (fun q => c (lgc_eq.mpr q))
    refine r_lload (pc := 16) dX2_becomesFraction_16 5 rfl ?_
    refine r_lconst (pc := 18) dX2_becomesFraction_18 kc_lconst_0 ?_
    refine r_lcmp (pc := 19) dX2_becomesFraction_19 ?_
    refine r_ifge (pc := 20) (tgt := 29) dX2_becomesFraction_20 rfl (fun c => ?_) (fun c => ?_)
    · have h := it h (lgc_ge.mp c)
      refine r_lload (pc := 29) dX2_becomesFraction_29 0 rfl ?_
      refine r_sub [1, 2, 3, 4, 5] rfl ?_
      exact wX2_becomesFraction_b31 h
    · have h := ie h (fun q => c (lgc_ge.mpr q))
      refine r_lload (pc := 23) dX2_becomesFraction_23 0 rfl ?_
      refine r_lneg (pc := 25) dX2_becomesFraction_25 ?_
      refine r_goto (pc := 26) (tgt := 31) dX2_becomesFraction_26 rfl ?_
      refine r_sub [1, 2, 3, 4, 5] rfl ?_
      exact wX2_becomesFraction_b31 h
  · have h := it h (lgc_eq.mp c)
    cases h
    exact r_vret dX2_becomesFraction_15
abbrev WX2_divideRow (G : Gx) (l : Launch) (σ0 : Shp) (X1 : Stt) (rv : Option SV) : Stt → Nat → List (Nat × SV) → List SV → Prop := Wm G l yX2_divideRow cX2_divideRow 7 none (fun _ => True) (rmx 3 81 σ0 X1.1) σ0 (Qmx G σ0 X1 rv)
def fX2_divideRow_l3  (σ : Shp) (R : Nat → Nat → Option Nat) (t : Nat) : Nat → (Nat → Nat → Int64) → (Int32) → (Int64) → (Int64) → (Int32) → Option ((Nat → Nat → Int64))
  | 0, _, _, _, _, _ => none
  | n + 1, J, x1, x2, x4, x6 =>
    if (8 : Int32) ≤ x6 then
      some J
    else
      if kdx σ t = 3 then
      ((R t 1) : Option Nat).bind fun a2 =>
      if kdx σ a2 = 29 then
      if ¬ (x1 < 0 ∨ lnx σ a2 ≤ Int32.toNatClampNeg x1) then
      ((R a2 (Int32.toNatClampNeg x1)) : Option Nat).bind fun a5 =>
      if kdx σ a5 = 21 then
      if ¬ (x6 < 0 ∨ lnx σ a5 ≤ Int32.toNatClampNeg x6) then
      ((R t 2) : Option Nat).bind fun a8 =>
      if kdx σ a8 = 29 then
      if ¬ (x1 < 0 ∨ lnx σ a8 ≤ Int32.toNatClampNeg x1) then
      ((R a8 (Int32.toNatClampNeg x1)) : Option Nat).bind fun a11 =>
      if kdx σ a11 = 21 then
      if ¬ (x6 < 0 ∨ lnx σ a11 ≤ Int32.toNatClampNeg x6) then
      (fX2_becomesFraction σ J R t x1 x6 ((J a5 (Int32.toNatClampNeg x6)) * x4) ((J a11 (Int32.toNatClampNeg x6)) * x2)).bind fun J14 =>
      let v16 := x6 + (1 : Int32)
      fX2_divideRow_l3 σ R t n J14 x1 x2 x4 v16
      else none
      else none
      else none
      else none
      else none
      else none
      else none
      else none
      else none
theorem wX2_divideRow_l3 {G : Gx} {l : Launch} {σ : Shp} {I : Nat → Nat → Int32} {D : Nat → Nat → UInt64} {R : Nat → Nat → Option Nat} {t : Nat} {J9 : Nat → Nat → Int64} : ∀ (n : Nat) (J : Nat → Nat → Int64) (x1 : Int32) (x2 : Int64) (x4 : Int64) (x6 : Int32), fX2_divideRow_l3 σ R t n J x1 x2 x4 x6 = some J9 → WX2_divideRow G l σ (σ, I, J9, D, R) none (σ, I, J, D, R) 3 [(0, vR (some t)), (1, vI x1), (2, vL x2), (4, vL x4), (6, vI x6)] [] := by
  intro n
  induction n with
  | zero =>
    intro J x1 x2 x4 x6 h
    have h : none = some _ := h
    cases h
  | succ n ih =>
    intro J x1 x2 x4 x6 h
    rw [fX2_divideRow_l3] at h
    refine r_iload (pc := 3) dX2_divideRow_3 4 rfl ?_
    refine r_bipush (pc := 5) dX2_divideRow_5 kc_bipush_8 ?_
    refine r_icmp_ge (pc := 7) (tgt := 46) dX2_divideRow_7 rfl (fun c => ?_) (fun c => ?_)
    · have h := it h c
      cases h
      exact r_vret dX2_divideRow_46
    · have h := ie h c
      refine r_aload_n (pc := 10) dX2_divideRow_10 rfl 0 rfl ?_
      refine r_iload_n (pc := 11) dX2_divideRow_11 rfl 1 rfl ?_
      refine r_iload (pc := 12) dX2_divideRow_12 4 rfl ?_
      refine r_aload_n (pc := 14) dX2_divideRow_14 rfl 0 rfl ?_
      obtain ⟨g1, h⟩ := gd h
      obtain ⟨a2, ha2, h⟩ := ob h
      refine r_getS (pc := 15) dX2_divideRow_15 fgX2_16 rfl g1 ha2 ?_
      refine r_iload_n (pc := 18) dX2_divideRow_18 rfl 1 rfl ?_
      obtain ⟨g3, h⟩ := gd h
      obtain ⟨g4, h⟩ := gd h
      refine r_aaload (pc := 19) dX2_divideRow_19 g3 (by decide) g4 ?_
      obtain ⟨a5, ha5, h⟩ := ob h
      refine r_ref0 ha5 ?_
      refine r_iload (pc := 20) dX2_divideRow_20 4 rfl ?_
      obtain ⟨g6, h⟩ := gd h
      obtain ⟨g7, h⟩ := gd h
      refine r_laload (pc := 22) dX2_divideRow_22 g6 g7 ?_
      refine r_lload (pc := 23) dX2_divideRow_23 3 rfl ?_
      refine r_lmul (pc := 25) dX2_divideRow_25 ?_
      refine r_aload_n (pc := 26) dX2_divideRow_26 rfl 0 rfl ?_
      obtain ⟨a8, ha8, h⟩ := ob h
      refine r_getS (pc := 27) dX2_divideRow_27 fgX2_19 rfl g1 ha8 ?_
      refine r_iload_n (pc := 30) dX2_divideRow_30 rfl 1 rfl ?_
      obtain ⟨g9, h⟩ := gd h
      obtain ⟨g10, h⟩ := gd h
      refine r_aaload (pc := 31) dX2_divideRow_31 g9 (by decide) g10 ?_
      obtain ⟨a11, ha11, h⟩ := ob h
      refine r_ref0 ha11 ?_
      refine r_iload (pc := 32) dX2_divideRow_32 4 rfl ?_
      obtain ⟨g12, h⟩ := gd h
      obtain ⟨g13, h⟩ := gd h
      refine r_laload (pc := 34) dX2_divideRow_34 g12 g13 ?_
      refine r_lload_n (pc := 35) dX2_divideRow_35 rfl 2 rfl ?_
      refine r_lmul (pc := 36) dX2_divideRow_36 ?_
      obtain ⟨J14, hc15, h⟩ := ob h
      refine r_callV0 (pc := 37) (av := [vI x1, vI x6, vL ((J a5 (Int32.toNatClampNeg x6)) * x4), vL ((J a11 (Int32.toNatClampNeg x6)) * x2)]) (S := []) dX2_divideRow_37 (kX2_becomesFraction hc15) g1 rfl mkX2_69 mwX2_becomesFraction rfl ⟨Nat.le_of_ble_eq_true rfl, Nat.le_of_ble_eq_true rfl⟩ (Nat.le_of_ble_eq_true rfl) ⟨Nat.le_refl _, Nat.le_refl _⟩ (fun b => b) ?_
      refine r_iinc (pc := 40) (v := (x6 + (1 : Int32))) (L' := [(6, vI (x6 + (1 : Int32))), (0, vR (some t)), (1, vI x1), (2, vL x2), (4, vL x4)]) dX2_divideRow_40 4 rfl (kc_inc_1 _) (by decide) rfl ?_
      refine r_goto (pc := 43) (tgt := 3) dX2_divideRow_43 rfl ?_
      refine r_sub [1, 2, 3, 4, 0] rfl ?_
      exact ih _ _ _ _ _ h
def fX2_divideRow (σ : Shp) (J : Nat → Nat → Int64) (R : Nat → Nat → Option Nat) (t : Nat) (x1 : Int32) (x2 : Int64) (x4 : Int64) : Option ((Nat → Nat → Int64)) :=
  fX2_divideRow_l3 σ R t FUx J x1 x2 x4 (0 : Int32)
theorem kX2_divideRow {G : Gx} {l : Launch} {σ : Shp} {I : Nat → Nat → Int32} {J : Nat → Nat → Int64} {D : Nat → Nat → UInt64} {R : Nat → Nat → Option Nat} {t : Nat} {x1 : Int32} {x2 : Int64} {x4 : Int64} {J9 : Nat → Nat → Int64} (h : fX2_divideRow σ J R t x1 x2 x4 = some J9) : Con G l yX2_divideRow cX2_divideRow 7 none 3 81 [vR (some t), vI x1, vL x2, vL x4] (σ, I, J, D, R) (σ, I, J9, D, R) none := by
  unfold fX2_divideRow at h
  refine Con.mk (by decide +kernel) rfl (Nat.le_of_ble_eq_true rfl) ?_
  show WX2_divideRow G l σ (σ, I, J9, D, R) none (σ, I, J, D, R) 0 _ []
  refine r_iconst (pc := 0) dX2_divideRow_0 kc_iconst_0 ?_
  refine r_istore (pc := 1) (L' := [(6, vI (0 : Int32)), (0, vR (some t)), (1, vI x1), (2, vL x2), (4, vL x4)]) dX2_divideRow_1 (by decide) rfl ?_
  refine r_sub [1, 2, 3, 4, 0] rfl ?_
  exact wX2_divideRow_l3 _ _ _ _ _ _ h
abbrev WX2_takeRow (G : Gx) (l : Launch) (σ0 : Shp) (X1 : Stt) (rv : Option SV) : Stt → Nat → List (Nat × SV) → List SV → Prop := Wm G l yX2_takeRow cX2_takeRow 14 none (fun _ => True) (rmx 3 81 σ0 X1.1) σ0 (Qmx G σ0 X1 rv)
def fX2_takeRow_b67 (q3 : (Nat → Nat → Int64) → (Int32) → (Int32) → (Int64) → (Int64) → (Int32) → (Option ((Nat → Nat → Int64)))) (σ : Shp) (R : Nat → Nat → Option Nat) (t : Nat) (J : Nat → Nat → Int64) (x1 : Int32) (x2 : Int32) (x3 : Int64) (x5 : Int64) (x7 : Int32) (x8 : Int64) (x10 : Int64) : Option ((Nat → Nat → Int64)) :=
  if kdx σ t = 3 then
  ((R t 1) : Option Nat).bind fun a19 =>
  if kdx σ a19 = 29 then
  if ¬ (x1 < 0 ∨ lnx σ a19 ≤ Int32.toNatClampNeg x1) then
  ((R a19 (Int32.toNatClampNeg x1)) : Option Nat).bind fun a22 =>
  if kdx σ a22 = 21 then
  if ¬ (x7 < 0 ∨ lnx σ a22 ≤ Int32.toNatClampNeg x7) then
  ((R t 2) : Option Nat).bind fun a25 =>
  if kdx σ a25 = 29 then
  if ¬ (x1 < 0 ∨ lnx σ a25 ≤ Int32.toNatClampNeg x1) then
  ((R a25 (Int32.toNatClampNeg x1)) : Option Nat).bind fun a28 =>
  if kdx σ a28 = 21 then
  if ¬ (x7 < 0 ∨ lnx σ a28 ≤ Int32.toNatClampNeg x7) then
  (fX2_becomesFraction σ J R t x1 x7 (((J a22 (Int32.toNatClampNeg x7)) * x10) - (x8 * (J a28 (Int32.toNatClampNeg x7)))) ((J a28 (Int32.toNatClampNeg x7)) * x10)).bind fun J31 =>
  let v33 := x7 + (1 : Int32)
  q3 J31 x1 x2 x3 x5 v33
  else none
  else none
  else none
  else none
  else none
  else none
  else none
  else none
  else none
theorem wX2_takeRow_b67 {G : Gx} {l : Launch} {σ : Shp} {I : Nat → Nat → Int32} {J : Nat → Nat → Int64} {D : Nat → Nat → UInt64} {R : Nat → Nat → Option Nat} {t : Nat} {J9 : Nat → Nat → Int64} {q3 : (Nat → Nat → Int64) → (Int32) → (Int32) → (Int64) → (Int64) → (Int32) → (Option ((Nat → Nat → Int64)))} {x1 : Int32} {x2 : Int32} {x3 : Int64} {x5 : Int64} {x7 : Int32} {x8 : Int64} {x10 : Int64} (hq3 : ∀ (J : Nat → Nat → Int64) (x1 : Int32) (x2 : Int32) (x3 : Int64) (x5 : Int64) (x7 : Int32), q3 J x1 x2 x3 x5 x7 = some J9 → WX2_takeRow G l σ (σ, I, J9, D, R) none (σ, I, J, D, R) 3 [(0, vR (some t)), (1, vI x1), (2, vI x2), (3, vL x3), (5, vL x5), (7, vI x7)] []) (h : fX2_takeRow_b67 q3 σ R t J x1 x2 x3 x5 x7 x8 x10 = some J9) : WX2_takeRow G l σ (σ, I, J9, D, R) none (σ, I, J, D, R) 67 [(0, vR (some t)), (1, vI x1), (2, vI x2), (3, vL x3), (5, vL x5), (7, vI x7), (8, vL x8), (10, vL x10)] [] := by
  unfold fX2_takeRow_b67 at h
  refine r_aload_n (pc := 67) dX2_takeRow_67 rfl 0 rfl ?_
  refine r_iload_n (pc := 68) dX2_takeRow_68 rfl 1 rfl ?_
  refine r_iload (pc := 69) dX2_takeRow_69 5 rfl ?_
  refine r_aload_n (pc := 71) dX2_takeRow_71 rfl 0 rfl ?_
  obtain ⟨g18, h⟩ := gd h
  obtain ⟨a19, ha19, h⟩ := ob h
  refine r_getS (pc := 72) dX2_takeRow_72 fgX2_16 rfl g18 ha19 ?_
  refine r_iload_n (pc := 75) dX2_takeRow_75 rfl 1 rfl ?_
  obtain ⟨g20, h⟩ := gd h
  obtain ⟨g21, h⟩ := gd h
  refine r_aaload (pc := 76) dX2_takeRow_76 g20 (by decide) g21 ?_
  obtain ⟨a22, ha22, h⟩ := ob h
  refine r_ref0 ha22 ?_
  refine r_iload (pc := 77) dX2_takeRow_77 5 rfl ?_
  obtain ⟨g23, h⟩ := gd h
  obtain ⟨g24, h⟩ := gd h
  refine r_laload (pc := 79) dX2_takeRow_79 g23 g24 ?_
  refine r_lload (pc := 80) dX2_takeRow_80 7 rfl ?_
  refine r_lmul (pc := 82) dX2_takeRow_82 ?_
  refine r_lload (pc := 83) dX2_takeRow_83 6 rfl ?_
  refine r_aload_n (pc := 85) dX2_takeRow_85 rfl 0 rfl ?_
  obtain ⟨a25, ha25, h⟩ := ob h
  refine r_getS (pc := 86) dX2_takeRow_86 fgX2_19 rfl g18 ha25 ?_
  refine r_iload_n (pc := 89) dX2_takeRow_89 rfl 1 rfl ?_
  obtain ⟨g26, h⟩ := gd h
  obtain ⟨g27, h⟩ := gd h
  refine r_aaload (pc := 90) dX2_takeRow_90 g26 (by decide) g27 ?_
  obtain ⟨a28, ha28, h⟩ := ob h
  refine r_ref0 ha28 ?_
  refine r_iload (pc := 91) dX2_takeRow_91 5 rfl ?_
  obtain ⟨g29, h⟩ := gd h
  obtain ⟨g30, h⟩ := gd h
  refine r_laload (pc := 93) dX2_takeRow_93 g29 g30 ?_
  refine r_lmul (pc := 94) dX2_takeRow_94 ?_
  refine r_lsub (pc := 95) dX2_takeRow_95 ?_
  refine r_aload_n (pc := 96) dX2_takeRow_96 rfl 0 rfl ?_
  refine r_getS (pc := 97) dX2_takeRow_97 fgX2_19 rfl g18 ha25 ?_
  refine r_iload_n (pc := 100) dX2_takeRow_100 rfl 1 rfl ?_
  refine r_aaload (pc := 101) dX2_takeRow_101 g26 (by decide) g27 ?_
  refine r_ref0 ha28 ?_
  refine r_iload (pc := 102) dX2_takeRow_102 5 rfl ?_
  refine r_laload (pc := 104) dX2_takeRow_104 g29 g30 ?_
  refine r_lload (pc := 105) dX2_takeRow_105 7 rfl ?_
  refine r_lmul (pc := 107) dX2_takeRow_107 ?_
  obtain ⟨J31, hc32, h⟩ := ob h
  refine r_callV0 (pc := 108) (av := [vI x1, vI x7, vL (((J a22 (Int32.toNatClampNeg x7)) * x10) - (x8 * (J a28 (Int32.toNatClampNeg x7)))), vL ((J a28 (Int32.toNatClampNeg x7)) * x10)]) (S := []) dX2_takeRow_108 (kX2_becomesFraction hc32) g18 rfl mkX2_69 mwX2_becomesFraction rfl ⟨Nat.le_of_ble_eq_true rfl, Nat.le_of_ble_eq_true rfl⟩ (Nat.le_of_ble_eq_true rfl) ⟨Nat.le_refl _, Nat.le_refl _⟩ (fun b => b) ?_
  refine r_iinc (pc := 111) (v := (x7 + (1 : Int32))) (L' := [(7, vI (x7 + (1 : Int32))), (0, vR (some t)), (1, vI x1), (2, vI x2), (3, vL x3), (5, vL x5), (8, vL x8), (10, vL x10)]) dX2_takeRow_111 5 rfl (kc_inc_1 _) (by decide) rfl ?_
  refine r_goto (pc := 114) (tgt := 3) dX2_takeRow_114 rfl ?_
  refine r_sub [1, 2, 3, 4, 5, 0] rfl ?_
  exact hq3 _ _ _ _ _ _ h
def fX2_takeRow_l3  (σ : Shp) (R : Nat → Nat → Option Nat) (t : Nat) : Nat → (Nat → Nat → Int64) → (Int32) → (Int32) → (Int64) → (Int64) → (Int32) → Option ((Nat → Nat → Int64))
  | 0, _, _, _, _, _, _ => none
  | n + 1, J, x1, x2, x3, x5, x7 =>
    if (8 : Int32) ≤ x7 then
      some J
    else
      if kdx σ t = 3 then
      ((R t 1) : Option Nat).bind fun a2 =>
      if kdx σ a2 = 29 then
      if ¬ (x2 < 0 ∨ lnx σ a2 ≤ Int32.toNatClampNeg x2) then
      ((R a2 (Int32.toNatClampNeg x2)) : Option Nat).bind fun a5 =>
      if kdx σ a5 = 21 then
      if ¬ (x7 < 0 ∨ lnx σ a5 ≤ Int32.toNatClampNeg x7) then
      let v8 := ((J a5 (Int32.toNatClampNeg x7)) * x3)
      ((R t 2) : Option Nat).bind fun a9 =>
      if kdx σ a9 = 29 then
      if ¬ (x2 < 0 ∨ lnx σ a9 ≤ Int32.toNatClampNeg x2) then
      ((R a9 (Int32.toNatClampNeg x2)) : Option Nat).bind fun a12 =>
      if kdx σ a12 = 21 then
      if ¬ (x7 < 0 ∨ lnx σ a12 ≤ Int32.toNatClampNeg x7) then
      let v15 := ((J a12 (Int32.toNatClampNeg x7)) * x5)
      (fX2_commonDivisor v8 v15).bind fun r16 =>
      if r16 ≤ (1 : Int64) then
        fX2_takeRow_b67 (fX2_takeRow_l3 σ R t n) σ R t J x1 x2 x3 x5 x7 v8 v15
      else
        if ¬ r16 = 0 then
        let v35 := (v8 / r16)
        let v36 := (v15 / r16)
        fX2_takeRow_b67 (fX2_takeRow_l3 σ R t n) σ R t J x1 x2 x3 x5 x7 v35 v36
        else none
      else none
      else none
      else none
      else none
      else none
      else none
      else none
      else none
      else none
theorem wX2_takeRow_l3 {G : Gx} {l : Launch} {σ : Shp} {I : Nat → Nat → Int32} {D : Nat → Nat → UInt64} {R : Nat → Nat → Option Nat} {t : Nat} {J9 : Nat → Nat → Int64} : ∀ (n : Nat) (J : Nat → Nat → Int64) (x1 : Int32) (x2 : Int32) (x3 : Int64) (x5 : Int64) (x7 : Int32), fX2_takeRow_l3 σ R t n J x1 x2 x3 x5 x7 = some J9 → WX2_takeRow G l σ (σ, I, J9, D, R) none (σ, I, J, D, R) 3 [(0, vR (some t)), (1, vI x1), (2, vI x2), (3, vL x3), (5, vL x5), (7, vI x7)] [] := by
  intro n
  induction n with
  | zero =>
    intro J x1 x2 x3 x5 x7 h
    have h : none = some _ := h
    cases h
  | succ n ih =>
    intro J x1 x2 x3 x5 x7 h
    rw [fX2_takeRow_l3] at h
    refine r_iload (pc := 3) dX2_takeRow_3 5 rfl ?_
    refine r_bipush (pc := 5) dX2_takeRow_5 kc_bipush_8 ?_
    refine r_icmp_ge (pc := 7) (tgt := 117) dX2_takeRow_7 rfl (fun c => ?_) (fun c => ?_)
    · have h := it h c
      cases h
      exact r_vret dX2_takeRow_117
    · have h := ie h c
      refine r_aload_n (pc := 10) dX2_takeRow_10 rfl 0 rfl ?_
      obtain ⟨g1, h⟩ := gd h
      obtain ⟨a2, ha2, h⟩ := ob h
      refine r_getS (pc := 11) dX2_takeRow_11 fgX2_16 rfl g1 ha2 ?_
      refine r_iload_n (pc := 14) dX2_takeRow_14 rfl 2 rfl ?_
      obtain ⟨g3, h⟩ := gd h
      obtain ⟨g4, h⟩ := gd h
      refine r_aaload (pc := 15) dX2_takeRow_15 g3 (by decide) g4 ?_
      obtain ⟨a5, ha5, h⟩ := ob h
      refine r_ref0 ha5 ?_
      refine r_iload (pc := 16) dX2_takeRow_16 5 rfl ?_
      obtain ⟨g6, h⟩ := gd h
      obtain ⟨g7, h⟩ := gd h
      refine r_laload (pc := 18) dX2_takeRow_18 g6 g7 ?_
      refine r_lload_n (pc := 19) dX2_takeRow_19 rfl 3 rfl ?_
      refine r_lmul (pc := 20) dX2_takeRow_20 ?_
      refine r_lstore (pc := 21) (L' := [(8, vL ((J a5 (Int32.toNatClampNeg x7)) * x3)), (0, vR (some t)), (1, vI x1), (2, vI x2), (3, vL x3), (5, vL x5), (7, vI x7)]) dX2_takeRow_21 (by decide) rfl ?_
      refine r_aload_n (pc := 23) dX2_takeRow_23 rfl 1 rfl ?_
      obtain ⟨a9, ha9, h⟩ := ob h
      refine r_getS (pc := 24) dX2_takeRow_24 fgX2_19 rfl g1 ha9 ?_
      refine r_iload_n (pc := 27) dX2_takeRow_27 rfl 3 rfl ?_
      obtain ⟨g10, h⟩ := gd h
      obtain ⟨g11, h⟩ := gd h
      refine r_aaload (pc := 28) dX2_takeRow_28 g10 (by decide) g11 ?_
      obtain ⟨a12, ha12, h⟩ := ob h
      refine r_ref0 ha12 ?_
      refine r_iload (pc := 29) dX2_takeRow_29 6 rfl ?_
      obtain ⟨g13, h⟩ := gd h
      obtain ⟨g14, h⟩ := gd h
      refine r_laload (pc := 31) dX2_takeRow_31 g13 g14 ?_
      refine r_lload (pc := 32) dX2_takeRow_32 5 rfl ?_
      refine r_lmul (pc := 34) dX2_takeRow_34 ?_
      refine r_lstore (pc := 35) (L' := [(10, vL ((J a12 (Int32.toNatClampNeg x7)) * x5)), (8, vL ((J a5 (Int32.toNatClampNeg x7)) * x3)), (0, vR (some t)), (1, vI x1), (2, vI x2), (3, vL x3), (5, vL x5), (7, vI x7)]) dX2_takeRow_35 (by decide) rfl ?_
      refine r_lload (pc := 37) dX2_takeRow_37 1 rfl ?_
      refine r_lload (pc := 39) dX2_takeRow_39 0 rfl ?_
      obtain ⟨r16, hc17, h⟩ := ob h
      refine r_callS1 (pc := 41) (av := [vL ((J a5 (Int32.toNatClampNeg x7)) * x3), vL ((J a12 (Int32.toNatClampNeg x7)) * x5)]) (S := []) dX2_takeRow_41 (kX2_commonDivisor hc17) mkX2_72 mwX2_commonDivisor rfl ⟨Nat.le_of_ble_eq_true rfl, Nat.le_of_ble_eq_true rfl⟩ (Nat.le_of_ble_eq_true rfl) ⟨Nat.le_refl _, Nat.le_refl _⟩ (fun b => b) ?_
      refine r_lstore (pc := 44) (L' := [(12, vL r16), (10, vL ((J a12 (Int32.toNatClampNeg x7)) * x5)), (8, vL ((J a5 (Int32.toNatClampNeg x7)) * x3)), (0, vR (some t)), (1, vI x1), (2, vI x2), (3, vL x3), (5, vL x5), (7, vI x7)]) dX2_takeRow_44 (by decide) rfl ?_
      refine r_lload (pc := 46) dX2_takeRow_46 0 rfl ?_
      refine r_lconst (pc := 48) dX2_takeRow_48 kc_lconst_1 ?_
      refine r_lcmp (pc := 49) dX2_takeRow_49 ?_
      refine r_if_le (pc := 50) (tgt := 67) dX2_takeRow_50 rfl (fun c => ?_) (fun c => ?_)
      · have h := it h (lgc_le.mp c)
        refine r_sub [3, 4, 5, 6, 7, 8, 2, 1] rfl ?_
        exact wX2_takeRow_b67 ih h
      · have h := ie h (fun q => c (lgc_le.mpr q))
        refine r_lload (pc := 53) dX2_takeRow_53 2 rfl ?_
        refine r_lload (pc := 55) dX2_takeRow_55 0 rfl ?_
        obtain ⟨g34, h⟩ := gd h
        refine r_ldiv (pc := 57) dX2_takeRow_57 g34 ?_
        refine r_lstore (pc := 58) (L' := [(8, vL (((J a5 (Int32.toNatClampNeg x7)) * x3) / r16)), (12, vL r16), (10, vL ((J a12 (Int32.toNatClampNeg x7)) * x5)), (0, vR (some t)), (1, vI x1), (2, vI x2), (3, vL x3), (5, vL x5), (7, vI x7)]) dX2_takeRow_58 (by decide) rfl ?_
        refine r_lload (pc := 60) dX2_takeRow_60 2 rfl ?_
        refine r_lload (pc := 62) dX2_takeRow_62 1 rfl ?_
        refine r_ldiv (pc := 64) dX2_takeRow_64 g34 ?_
        refine r_lstore (pc := 65) (L' := [(10, vL (((J a12 (Int32.toNatClampNeg x7)) * x5) / r16)), (8, vL (((J a5 (Int32.toNatClampNeg x7)) * x3) / r16)), (12, vL r16), (0, vR (some t)), (1, vI x1), (2, vI x2), (3, vL x3), (5, vL x5), (7, vI x7)]) dX2_takeRow_65 (by decide) rfl ?_
        refine r_sub [3, 4, 5, 6, 7, 8, 1, 0] rfl ?_
        exact wX2_takeRow_b67 ih h
def fX2_takeRow (σ : Shp) (J : Nat → Nat → Int64) (R : Nat → Nat → Option Nat) (t : Nat) (x1 : Int32) (x2 : Int32) (x3 : Int64) (x5 : Int64) : Option ((Nat → Nat → Int64)) :=
  fX2_takeRow_l3 σ R t FUx J x1 x2 x3 x5 (0 : Int32)
theorem kX2_takeRow {G : Gx} {l : Launch} {σ : Shp} {I : Nat → Nat → Int32} {J : Nat → Nat → Int64} {D : Nat → Nat → UInt64} {R : Nat → Nat → Option Nat} {t : Nat} {x1 : Int32} {x2 : Int32} {x3 : Int64} {x5 : Int64} {J9 : Nat → Nat → Int64} (h : fX2_takeRow σ J R t x1 x2 x3 x5 = some J9) : Con G l yX2_takeRow cX2_takeRow 14 none 3 81 [vR (some t), vI x1, vI x2, vL x3, vL x5] (σ, I, J, D, R) (σ, I, J9, D, R) none := by
  unfold fX2_takeRow at h
  refine Con.mk (by decide +kernel) rfl (Nat.le_of_ble_eq_true rfl) ?_
  show WX2_takeRow G l σ (σ, I, J9, D, R) none (σ, I, J, D, R) 0 _ []
  refine r_iconst (pc := 0) dX2_takeRow_0 kc_iconst_0 ?_
  refine r_istore (pc := 1) (L' := [(7, vI (0 : Int32)), (0, vR (some t)), (1, vI x1), (2, vI x2), (3, vL x3), (5, vL x5)]) dX2_takeRow_1 (by decide) rfl ?_
  refine r_sub [1, 2, 3, 4, 5, 0] rfl ?_
  exact wX2_takeRow_l3 _ _ _ _ _ _ _ h
abbrev WX2_workColumn (G : Gx) (l : Launch) (σ0 : Shp) (X1 : Stt) (rv : Option SV) : Stt → Nat → List (Nat × SV) → List SV → Prop := Wm G l yX2_workColumn cX2_workColumn 4 none (fun _ => True) (rmx 4 114 σ0 X1.1) σ0 (Qmx G σ0 X1 rv)
def fX2_workColumn_l76  (σ : Shp) (R : Nat → Nat → Option Nat) (t : Nat) : Nat → (Nat → Nat → Int32) → (Nat → Nat → Int64) → (Int32) → (Int32) → Option ((Nat → Nat → Int32) × (Nat → Nat → Int64))
  | 0, _, _, _, _ => none
  | n + 1, I, J, x1, x3 =>
    if (3 : Int32) ≤ x3 then
      if kdx σ t = 3 then
      ((R t 3) : Option Nat).bind fun a21 =>
      if kdx σ a21 = 20 then
      if ¬ ((I t 7) < 0 ∨ lnx σ a21 ≤ Int32.toNatClampNeg (I t 7)) then
      let I24 := u2 I a21 (Int32.toNatClampNeg (I t 7)) x1
      let I25 := u2 I24 t 7 ((I24 t 7) + (1 : Int32))
      some (I25, J)
      else none
      else none
      else none
    else
      if kdx σ t = 3 then
      if x3 = (I t 7) then
        let v27 := x3 + (1 : Int32)
        fX2_workColumn_l76 σ R t n I J x1 v27
      else
        ((R t 1) : Option Nat).bind fun a28 =>
        if kdx σ a28 = 29 then
        if ¬ (x3 < 0 ∨ lnx σ a28 ≤ Int32.toNatClampNeg x3) then
        ((R a28 (Int32.toNatClampNeg x3)) : Option Nat).bind fun a31 =>
        if kdx σ a31 = 21 then
        if ¬ (x1 < 0 ∨ lnx σ a31 ≤ Int32.toNatClampNeg x1) then
        ((R t 2) : Option Nat).bind fun a34 =>
        if kdx σ a34 = 29 then
        if ¬ (x3 < 0 ∨ lnx σ a34 ≤ Int32.toNatClampNeg x3) then
        ((R a34 (Int32.toNatClampNeg x3)) : Option Nat).bind fun a37 =>
        if kdx σ a37 = 21 then
        if ¬ (x1 < 0 ∨ lnx σ a37 ≤ Int32.toNatClampNeg x1) then
        (fX2_takeRow σ J R t x3 (I t 7) (J a31 (Int32.toNatClampNeg x1)) (J a37 (Int32.toNatClampNeg x1))).bind fun J40 =>
        let v42 := x3 + (1 : Int32)
        fX2_workColumn_l76 σ R t n I J40 x1 v42
        else none
        else none
        else none
        else none
        else none
        else none
        else none
        else none
      else none
theorem wX2_workColumn_l76 {G : Gx} {l : Launch} {σ : Shp} {D : Nat → Nat → UInt64} {R : Nat → Nat → Option Nat} {t : Nat} {I9 : Nat → Nat → Int32} {J9 : Nat → Nat → Int64} : ∀ (n : Nat) (I : Nat → Nat → Int32) (J : Nat → Nat → Int64) (x1 : Int32) (x3 : Int32), fX2_workColumn_l76 σ R t n I J x1 x3 = some (I9, J9) → WX2_workColumn G l σ (σ, I9, J9, D, R) none (σ, I, J, D, R) 76 [(0, vR (some t)), (1, vI x1), (3, vI x3)] [] := by
  intro n
  induction n with
  | zero =>
    intro I J x1 x3 h
    have h : none = some _ := h
    cases h
  | succ n ih =>
    intro I J x1 x3 h
    rw [fX2_workColumn_l76] at h
    refine r_iload_n (pc := 76) dX2_workColumn_76 rfl 2 rfl ?_
    refine r_iconst (pc := 77) dX2_workColumn_77 kc_iconst_3 ?_
    refine r_icmp_ge (pc := 78) (tgt := 120) dX2_workColumn_78 rfl (fun c => ?_) (fun c => ?_)
    · have h := it h c
      refine r_aload_n (pc := 120) dX2_workColumn_120 rfl 0 rfl ?_
      obtain ⟨g20, h⟩ := gd h
      obtain ⟨a21, ha21, h⟩ := ob h
      refine r_getS (pc := 121) dX2_workColumn_121 fgX2_22 rfl g20 ha21 ?_
      refine r_aload_n (pc := 124) dX2_workColumn_124 rfl 0 rfl ?_
      refine r_getI (pc := 125) dX2_workColumn_125 fgX2_36 rfl g20 ?_
      refine r_iload_n (pc := 128) dX2_workColumn_128 rfl 1 rfl ?_
      obtain ⟨g22, h⟩ := gd h
      obtain ⟨g23, h⟩ := gd h
      refine r_iastore (pc := 129) dX2_workColumn_129 g22 g23 ?_
      refine r_aload_n (pc := 130) dX2_workColumn_130 rfl 0 rfl ?_
      refine r_dup (pc := 131) dX2_workColumn_131 rfl ?_
      refine r_getI (pc := 132) dX2_workColumn_132 fgX2_36 rfl g20 ?_
      refine r_iconst (pc := 135) dX2_workColumn_135 kc_iconst_1 ?_
      refine r_iadd (pc := 136) dX2_workColumn_136 ?_
      refine r_putI (pc := 137) dX2_workColumn_137 fwX2_36 rfl g20 ?_
      cases h
      exact r_vret dX2_workColumn_140
    · have h := ie h c
      refine r_iload_n (pc := 81) dX2_workColumn_81 rfl 2 rfl ?_
      refine r_aload_n (pc := 82) dX2_workColumn_82 rfl 0 rfl ?_
      obtain ⟨g26, h⟩ := gd h
      refine r_getI (pc := 83) dX2_workColumn_83 fgX2_36 rfl g26 ?_
      refine r_icmp_eq (pc := 86) (tgt := 114) dX2_workColumn_86 rfl (fun c => ?_) (fun c => ?_)
      · have h := it h c
        refine r_iinc (pc := 114) (v := (x3 + (1 : Int32))) (L' := [(3, vI (x3 + (1 : Int32))), (0, vR (some t)), (1, vI x1)]) dX2_workColumn_114 2 rfl (kc_inc_1 _) (by decide) rfl ?_
        refine r_goto (pc := 117) (tgt := 76) dX2_workColumn_117 rfl ?_
        refine r_sub [1, 2, 0] rfl ?_
        exact ih _ _ _ _ h
      · have h := ie h c
        refine r_aload_n (pc := 89) dX2_workColumn_89 rfl 0 rfl ?_
        refine r_iload_n (pc := 90) dX2_workColumn_90 rfl 2 rfl ?_
        refine r_aload_n (pc := 91) dX2_workColumn_91 rfl 0 rfl ?_
        refine r_getI (pc := 92) dX2_workColumn_92 fgX2_36 rfl g26 ?_
        refine r_aload_n (pc := 95) dX2_workColumn_95 rfl 0 rfl ?_
        obtain ⟨a28, ha28, h⟩ := ob h
        refine r_getS (pc := 96) dX2_workColumn_96 fgX2_16 rfl g26 ha28 ?_
        refine r_iload_n (pc := 99) dX2_workColumn_99 rfl 2 rfl ?_
        obtain ⟨g29, h⟩ := gd h
        obtain ⟨g30, h⟩ := gd h
        refine r_aaload (pc := 100) dX2_workColumn_100 g29 (by decide) g30 ?_
        obtain ⟨a31, ha31, h⟩ := ob h
        refine r_ref0 ha31 ?_
        refine r_iload_n (pc := 101) dX2_workColumn_101 rfl 1 rfl ?_
        obtain ⟨g32, h⟩ := gd h
        obtain ⟨g33, h⟩ := gd h
        refine r_laload (pc := 102) dX2_workColumn_102 g32 g33 ?_
        refine r_aload_n (pc := 103) dX2_workColumn_103 rfl 0 rfl ?_
        obtain ⟨a34, ha34, h⟩ := ob h
        refine r_getS (pc := 104) dX2_workColumn_104 fgX2_19 rfl g26 ha34 ?_
        refine r_iload_n (pc := 107) dX2_workColumn_107 rfl 2 rfl ?_
        obtain ⟨g35, h⟩ := gd h
        obtain ⟨g36, h⟩ := gd h
        refine r_aaload (pc := 108) dX2_workColumn_108 g35 (by decide) g36 ?_
        obtain ⟨a37, ha37, h⟩ := ob h
        refine r_ref0 ha37 ?_
        refine r_iload_n (pc := 109) dX2_workColumn_109 rfl 1 rfl ?_
        obtain ⟨g38, h⟩ := gd h
        obtain ⟨g39, h⟩ := gd h
        refine r_laload (pc := 110) dX2_workColumn_110 g38 g39 ?_
        obtain ⟨J40, hc41, h⟩ := ob h
        refine r_callV0 (pc := 111) (av := [vI x3, vI (I t 7), vL (J a31 (Int32.toNatClampNeg x1)), vL (J a37 (Int32.toNatClampNeg x1))]) (S := []) dX2_workColumn_111 (kX2_takeRow hc41) g26 rfl mkX2_65 mwX2_takeRow rfl ⟨Nat.le_of_ble_eq_true rfl, Nat.le_of_ble_eq_true rfl⟩ (Nat.le_of_ble_eq_true rfl) ⟨Nat.le_refl _, Nat.le_refl _⟩ (fun b => b) ?_
        refine r_iinc (pc := 114) (v := (x3 + (1 : Int32))) (L' := [(3, vI (x3 + (1 : Int32))), (0, vR (some t)), (1, vI x1)]) dX2_workColumn_114 2 rfl (kc_inc_1 _) (by decide) rfl ?_
        refine r_goto (pc := 117) (tgt := 76) dX2_workColumn_117 rfl ?_
        refine r_sub [1, 2, 0] rfl ?_
        exact ih _ _ _ _ h
def fX2_workColumn_b29  (σ : Shp) (R : Nat → Nat → Option Nat) (t : Nat) (I : Nat → Nat → Int32) (J : Nat → Nat → Int64) (x1 : Int32) (x2 : Int32) : Option ((Nat → Nat → Int32) × (Nat → Nat → Int64)) :=
  if x2 < (3 : Int32) then
    if kdx σ t = 3 then
    (fX2_changePlaces σ J R t x2 (I t 7)).bind fun J4 =>
    ((R t 1) : Option Nat).bind fun a6 =>
    if kdx σ a6 = 29 then
    if ¬ ((I t 7) < 0 ∨ lnx σ a6 ≤ Int32.toNatClampNeg (I t 7)) then
    ((R a6 (Int32.toNatClampNeg (I t 7))) : Option Nat).bind fun a9 =>
    if kdx σ a9 = 21 then
    if ¬ (x1 < 0 ∨ lnx σ a9 ≤ Int32.toNatClampNeg x1) then
    ((R t 2) : Option Nat).bind fun a12 =>
    if kdx σ a12 = 29 then
    if ¬ ((I t 7) < 0 ∨ lnx σ a12 ≤ Int32.toNatClampNeg (I t 7)) then
    ((R a12 (Int32.toNatClampNeg (I t 7))) : Option Nat).bind fun a15 =>
    if kdx σ a15 = 21 then
    if ¬ (x1 < 0 ∨ lnx σ a15 ≤ Int32.toNatClampNeg x1) then
    (fX2_divideRow σ J4 R t (I t 7) (J4 a9 (Int32.toNatClampNeg x1)) (J4 a15 (Int32.toNatClampNeg x1))).bind fun J18 =>
    fX2_workColumn_l76 σ R t FUx I J18 x1 (0 : Int32)
    else none
    else none
    else none
    else none
    else none
    else none
    else none
    else none
    else none
  else
    some (I, J)
theorem wX2_workColumn_b29 {G : Gx} {l : Launch} {σ : Shp} {I : Nat → Nat → Int32} {J : Nat → Nat → Int64} {D : Nat → Nat → UInt64} {R : Nat → Nat → Option Nat} {t : Nat} {I9 : Nat → Nat → Int32} {J9 : Nat → Nat → Int64} {x1 : Int32} {x2 : Int32} (h : fX2_workColumn_b29 σ R t I J x1 x2 = some (I9, J9)) : WX2_workColumn G l σ (σ, I9, J9, D, R) none (σ, I, J, D, R) 29 [(0, vR (some t)), (1, vI x1), (2, vI x2)] [] := by
  unfold fX2_workColumn_b29 at h
  refine r_iload_n (pc := 29) dX2_workColumn_29 rfl 2 rfl ?_
  refine r_iconst (pc := 30) dX2_workColumn_30 kc_iconst_3 ?_
  refine r_icmp_lt (pc := 31) (tgt := 35) dX2_workColumn_31 rfl (fun c => ?_) (fun c => ?_)
  · have h := it h c
    refine r_aload_n (pc := 35) dX2_workColumn_35 rfl 0 rfl ?_
    refine r_iload_n (pc := 36) dX2_workColumn_36 rfl 2 rfl ?_
    refine r_aload_n (pc := 37) dX2_workColumn_37 rfl 0 rfl ?_
    obtain ⟨g3, h⟩ := gd h
    refine r_getI (pc := 38) dX2_workColumn_38 fgX2_36 rfl g3 ?_
    obtain ⟨J4, hc5, h⟩ := ob h
    refine r_callV0 (pc := 41) (av := [vI x2, vI (I t 7)]) (S := []) dX2_workColumn_41 (kX2_changePlaces hc5) g3 rfl mkX2_57 mwX2_changePlaces rfl ⟨Nat.le_of_ble_eq_true rfl, Nat.le_of_ble_eq_true rfl⟩ (Nat.le_of_ble_eq_true rfl) ⟨Nat.le_refl _, Nat.le_refl _⟩ (fun b => b) ?_
    refine r_aload_n (pc := 44) dX2_workColumn_44 rfl 0 rfl ?_
    refine r_aload_n (pc := 45) dX2_workColumn_45 rfl 0 rfl ?_
    refine r_getI (pc := 46) dX2_workColumn_46 fgX2_36 rfl g3 ?_
    refine r_aload_n (pc := 49) dX2_workColumn_49 rfl 0 rfl ?_
    obtain ⟨a6, ha6, h⟩ := ob h
    refine r_getS (pc := 50) dX2_workColumn_50 fgX2_16 rfl g3 ha6 ?_
    refine r_aload_n (pc := 53) dX2_workColumn_53 rfl 0 rfl ?_
    refine r_getI (pc := 54) dX2_workColumn_54 fgX2_36 rfl g3 ?_
    obtain ⟨g7, h⟩ := gd h
    obtain ⟨g8, h⟩ := gd h
    refine r_aaload (pc := 57) dX2_workColumn_57 g7 (by decide) g8 ?_
    obtain ⟨a9, ha9, h⟩ := ob h
    refine r_ref0 ha9 ?_
    refine r_iload_n (pc := 58) dX2_workColumn_58 rfl 1 rfl ?_
    obtain ⟨g10, h⟩ := gd h
    obtain ⟨g11, h⟩ := gd h
    refine r_laload (pc := 59) dX2_workColumn_59 g10 g11 ?_
    refine r_aload_n (pc := 60) dX2_workColumn_60 rfl 0 rfl ?_
    obtain ⟨a12, ha12, h⟩ := ob h
    refine r_getS (pc := 61) dX2_workColumn_61 fgX2_19 rfl g3 ha12 ?_
    refine r_aload_n (pc := 64) dX2_workColumn_64 rfl 0 rfl ?_
    refine r_getI (pc := 65) dX2_workColumn_65 fgX2_36 rfl g3 ?_
    obtain ⟨g13, h⟩ := gd h
    obtain ⟨g14, h⟩ := gd h
    refine r_aaload (pc := 68) dX2_workColumn_68 g13 (by decide) g14 ?_
    obtain ⟨a15, ha15, h⟩ := ob h
    refine r_ref0 ha15 ?_
    refine r_iload_n (pc := 69) dX2_workColumn_69 rfl 1 rfl ?_
    obtain ⟨g16, h⟩ := gd h
    obtain ⟨g17, h⟩ := gd h
    refine r_laload (pc := 70) dX2_workColumn_70 g16 g17 ?_
    obtain ⟨J18, hc19, h⟩ := ob h
    refine r_callV0 (pc := 71) (av := [vI (I t 7), vL (J4 a9 (Int32.toNatClampNeg x1)), vL (J4 a15 (Int32.toNatClampNeg x1))]) (S := []) dX2_workColumn_71 (kX2_divideRow hc19) g3 rfl mkX2_61 mwX2_divideRow rfl ⟨Nat.le_of_ble_eq_true rfl, Nat.le_of_ble_eq_true rfl⟩ (Nat.le_of_ble_eq_true rfl) ⟨Nat.le_refl _, Nat.le_refl _⟩ (fun b => b) ?_
    refine r_iconst (pc := 74) dX2_workColumn_74 kc_iconst_0 ?_
    refine r_istore_n (pc := 75) (L' := [(3, vI (0 : Int32)), (0, vR (some t)), (1, vI x1), (2, vI x2)]) dX2_workColumn_75 rfl (by decide) rfl ?_
    refine r_sub [1, 2, 0] rfl ?_
    exact wX2_workColumn_l76 _ _ _ _ _ h
  · have h := ie h c
    cases h
    exact r_vret dX2_workColumn_34
def fX2_workColumn_l5  (σ : Shp) (R : Nat → Nat → Option Nat) (t : Nat) : Nat → (Nat → Nat → Int32) → (Nat → Nat → Int64) → (Int32) → (Int32) → Option ((Nat → Nat → Int32) × (Nat → Nat → Int64))
  | 0, _, _, _, _ => none
  | n + 1, I, J, x1, x2 =>
    if (3 : Int32) ≤ x2 then
      fX2_workColumn_b29 σ R t I J x1 x2
    else
      if kdx σ t = 3 then
      ((R t 1) : Option Nat).bind fun a44 =>
      if kdx σ a44 = 29 then
      if ¬ (x2 < 0 ∨ lnx σ a44 ≤ Int32.toNatClampNeg x2) then
      ((R a44 (Int32.toNatClampNeg x2)) : Option Nat).bind fun a47 =>
      if kdx σ a47 = 21 then
      if ¬ (x1 < 0 ∨ lnx σ a47 ≤ Int32.toNatClampNeg x1) then
      if (J a47 (Int32.toNatClampNeg x1)) = (0 : Int64) then
        let v50 := x2 + (1 : Int32)
        fX2_workColumn_l5 σ R t n I J x1 v50
      else
        fX2_workColumn_b29 σ R t I J x1 x2
      else none
      else none
      else none
      else none
      else none
theorem wX2_workColumn_l5 {G : Gx} {l : Launch} {σ : Shp} {D : Nat → Nat → UInt64} {R : Nat → Nat → Option Nat} {t : Nat} {I9 : Nat → Nat → Int32} {J9 : Nat → Nat → Int64} : ∀ (n : Nat) (I : Nat → Nat → Int32) (J : Nat → Nat → Int64) (x1 : Int32) (x2 : Int32), fX2_workColumn_l5 σ R t n I J x1 x2 = some (I9, J9) → WX2_workColumn G l σ (σ, I9, J9, D, R) none (σ, I, J, D, R) 5 [(0, vR (some t)), (1, vI x1), (2, vI x2)] [] := by
  intro n
  induction n with
  | zero =>
    intro I J x1 x2 h
    have h : none = some _ := h
    cases h
  | succ n ih =>
    intro I J x1 x2 h
    rw [fX2_workColumn_l5] at h
    refine r_iload_n (pc := 5) dX2_workColumn_5 rfl 2 rfl ?_
    refine r_iconst (pc := 6) dX2_workColumn_6 kc_iconst_3 ?_
    refine r_icmp_ge (pc := 7) (tgt := 29) dX2_workColumn_7 rfl (fun c => ?_) (fun c => ?_)
    · have h := it h c
      refine r_sub [0, 1, 2] rfl ?_
      exact wX2_workColumn_b29 h
    · have h := ie h c
      refine r_aload_n (pc := 10) dX2_workColumn_10 rfl 0 rfl ?_
      obtain ⟨g43, h⟩ := gd h
      obtain ⟨a44, ha44, h⟩ := ob h
      refine r_getS (pc := 11) dX2_workColumn_11 fgX2_16 rfl g43 ha44 ?_
      refine r_iload_n (pc := 14) dX2_workColumn_14 rfl 2 rfl ?_
      obtain ⟨g45, h⟩ := gd h
      obtain ⟨g46, h⟩ := gd h
      refine r_aaload (pc := 15) dX2_workColumn_15 g45 (by decide) g46 ?_
      obtain ⟨a47, ha47, h⟩ := ob h
      refine r_ref0 ha47 ?_
      refine r_iload_n (pc := 16) dX2_workColumn_16 rfl 1 rfl ?_
      obtain ⟨g48, h⟩ := gd h
      obtain ⟨g49, h⟩ := gd h
      refine r_laload (pc := 17) dX2_workColumn_17 g48 g49 ?_
      refine r_lconst (pc := 18) dX2_workColumn_18 kc_lconst_0 ?_
      refine r_lcmp (pc := 19) dX2_workColumn_19 ?_
      refine r_ifne (pc := 20) (tgt := 29) dX2_workColumn_20 rfl (fun c => ?_) (fun c => ?_)
      · have h := ie h (fun q => c (lgc_eq.mpr q))
        refine r_sub [0, 1, 2] rfl ?_
        exact wX2_workColumn_b29 h
      · have h := it h (lgc_eq.mp c)
        refine r_iinc (pc := 23) (v := (x2 + (1 : Int32))) (L' := [(2, vI (x2 + (1 : Int32))), (0, vR (some t)), (1, vI x1)]) dX2_workColumn_23 2 rfl (kc_inc_1 _) (by decide) rfl ?_
        refine r_goto (pc := 26) (tgt := 5) dX2_workColumn_26 rfl ?_
        refine r_sub [1, 2, 0] rfl ?_
        exact ih _ _ _ _ h
def fX2_workColumn (σ : Shp) (I : Nat → Nat → Int32) (J : Nat → Nat → Int64) (R : Nat → Nat → Option Nat) (t : Nat) (x1 : Int32) : Option ((Nat → Nat → Int32) × (Nat → Nat → Int64)) :=
  if kdx σ t = 3 then
  let v2 := (I t 7)
  fX2_workColumn_l5 σ R t FUx I J x1 v2
  else none
theorem kX2_workColumn {G : Gx} {l : Launch} {σ : Shp} {I : Nat → Nat → Int32} {J : Nat → Nat → Int64} {D : Nat → Nat → UInt64} {R : Nat → Nat → Option Nat} {t : Nat} {x1 : Int32} {I9 : Nat → Nat → Int32} {J9 : Nat → Nat → Int64} (h : fX2_workColumn σ I J R t x1 = some (I9, J9)) : Con G l yX2_workColumn cX2_workColumn 4 none 4 114 [vR (some t), vI x1] (σ, I, J, D, R) (σ, I9, J9, D, R) none := by
  unfold fX2_workColumn at h
  refine Con.mk (by decide +kernel) rfl (Nat.le_of_ble_eq_true rfl) ?_
  show WX2_workColumn G l σ (σ, I9, J9, D, R) none (σ, I, J, D, R) 0 _ []
  refine r_aload_n (pc := 0) dX2_workColumn_0 rfl 0 rfl ?_
  obtain ⟨g1, h⟩ := gd h
  refine r_getI (pc := 1) dX2_workColumn_1 fgX2_36 rfl g1 ?_
  refine r_istore_n (pc := 4) (L' := [(2, vI (I t 7)), (0, vR (some t)), (1, vI x1)]) dX2_workColumn_4 rfl (by decide) rfl ?_
  refine r_sub [1, 2, 0] rfl ?_
  exact wX2_workColumn_l5 _ _ _ _ _ h
