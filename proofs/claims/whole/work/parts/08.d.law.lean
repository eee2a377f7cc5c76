theorem r_ref6 {G : Gx} {l : Launch} {y : MethodName} {cc : ByteArray} {nL : Nat} {rty : Option FieldType} {Ex : State → Prop} {RR : Room} {σ0 : Shp} {QQ : List Frame → Array Value → State → State → Prop} {X : Stt} {pc : Nat} {L : List (Nat × SV)} {S : List SV} {r : Option Nat} {a : Nat} {v0 v1 v2 v3 v4 v5 : SV} (h : r = some a) (k : Wm G l y cc nL rty Ex RR σ0 QQ X pc L (v0 :: v1 :: v2 :: v3 :: v4 :: v5 :: vR (some a) :: S)) : Wm G l y cc nL rty Ex RR σ0 QQ X pc L (v0 :: v1 :: v2 :: v3 :: v4 :: v5 :: vR r :: S) := h ▸ k
def fL_law_b3257 (q18 : (Shp) → (Nat → Nat → Int32) → (Nat → Nat → Int64) → (Nat → Nat → UInt64) → (Nat → Nat → Option Nat) → (Option Nat) → (Option Nat) → (Int32) → (Option (Unit))) (xs : Nat → Int32) (Lg : Nat) (σ : Shp) (I : Nat → Nat → Int32) (J : Nat → Nat → Int64) (D : Nat → Nat → UInt64) (R : Nat → Nat → Option Nat) (x1 : Option Nat) (x2 : Option Nat) (x3 : Int32) : Option Unit :=
  (x1 : Option Nat).bind fun a99 =>
  if kdx σ a99 = 12 then
  (fX11_fault σ I a99).bind fun r101 =>
  (x2 : Option Nat).bind fun a103 =>
  if kdx σ a103 = 13 then
  (fX12_fault σ I a103).bind fun r105 =>
  if r101 = r105 then
    let v107 := x3 + (7 : Int32)
    q18 σ I J D R x1 x2 v107
  else
    none
  else none
  else none
set_option maxHeartbeats 8000000 in
set_option maxRecDepth 100000 in
theorem wL_law_b3257 {G : Gx} {l : Launch} {xs : Nat → Int32} {Lg : Nat} {σ0 : Shp} {σ : Shp} {I : Nat → Nat → Int32} {J : Nat → Nat → Int64} {D : Nat → Nat → UInt64} {R : Nat → Nat → Option Nat} {q18 : (Shp) → (Nat → Nat → Int32) → (Nat → Nat → Int64) → (Nat → Nat → UInt64) → (Nat → Nat → Option Nat) → (Option Nat) → (Option Nat) → (Int32) → (Option (Unit))} {x1 : Option Nat} {x2 : Option Nat} {x3 : Int32} (hq18 : ∀ (σ : Shp) (I : Nat → Nat → Int32) (J : Nat → Nat → Int64) (D : Nat → Nat → UInt64) (R : Nat → Nat → Option Nat) (x1 : Option Nat) (x2 : Option Nat) (x3 : Int32), q18 σ I J D R x1 x2 x3 = some () → WLaw G l xs Lg σ0 (σ, I, J, D, R) 18 [(0, vR (some 3)), (1, vR x1), (2, vR x2), (3, vI x3)] []) (h : fL_law_b3257 q18 xs Lg σ I J D R x1 x2 x3 = some ()) : WLaw G l xs Lg σ0 (σ, I, J, D, R) 3257 [(0, vR (some 3)), (1, vR x1), (2, vR x2), (3, vI x3)] [] := by
  unfold fL_law_b3257 at h
  refine r_aload_n (pc := 3257) dL_law_3257 rfl 1 rfl ?_
  obtain ⟨a99, ha99, h⟩ := ob h
  refine r_ref0 ha99 ?_
  obtain ⟨g100, h⟩ := gd h
  obtain ⟨r101, hc102, h⟩ := ob h
  refine r_callV1 (pc := 3258) (av := []) (S := []) dL_law_3258 (kX11_fault hc102) g100 rfl mkL_326 mwX11_fault rfl ⟨Nat.le_of_ble_eq_true rfl, Nat.le_of_ble_eq_true rfl⟩ (Nat.le_of_ble_eq_true rfl) ⟨Nat.le_refl _, Nat.le_refl _⟩ (fun b => b) ?_
  refine r_aload_n (pc := 3261) dL_law_3261 rfl 2 rfl ?_
  obtain ⟨a103, ha103, h⟩ := ob h
  refine r_ref0 ha103 ?_
  obtain ⟨g104, h⟩ := gd h
  obtain ⟨r105, hc106, h⟩ := ob h
  refine r_callV1 (pc := 3262) (av := []) (S := [vI r101]) dL_law_3262 (kX12_fault hc106) g104 rfl mkL_329 mwX12_fault rfl ⟨Nat.le_of_ble_eq_true rfl, Nat.le_of_ble_eq_true rfl⟩ (Nat.le_of_ble_eq_true rfl) ⟨Nat.le_refl _, Nat.le_refl _⟩ (fun b => b) ?_
  refine r_icmp_eq (pc := 3265) (tgt := 3270) dL_law_3265 rfl (fun c => ?_) (fun c => ?_)
  · have h := it h c
    refine r_iinc (pc := 3270) (v := (x3 + (7 : Int32))) (L' := [(3, vI (x3 + (7 : Int32))), (0, vR (some 3)), (1, vR x1), (2, vR x2)]) dL_law_3270 3 rfl (kc_inc_7 _) (by decide) rfl ?_
    refine r_goto (pc := 3273) (tgt := 18) dL_law_3273 rfl ?_
    refine r_sub [1, 2, 3, 0] rfl ?_
    exact hq18 _ _ _ _ _ _ _ _ h
  · have h := ie h c
    refine r_iconst (pc := 3268) dL_law_3268 kc_iconst_0 ?_
    cases h
def fL_law_b3234 (q18 : (Shp) → (Nat → Nat → Int32) → (Nat → Nat → Int64) → (Nat → Nat → UInt64) → (Nat → Nat → Option Nat) → (Option Nat) → (Option Nat) → (Int32) → (Option (Unit))) (xs : Nat → Int32) (Lg : Nat) (σ : Shp) (I : Nat → Nat → Int32) (J : Nat → Nat → Int64) (D : Nat → Nat → UInt64) (R : Nat → Nat → Option Nat) (x1 : Option Nat) (x2 : Option Nat) (x3 : Int32) : Option Unit :=
  if ¬ ((x3 + (1 : Int32)) < 0 ∨ Lg ≤ Int32.toNatClampNeg (x3 + (1 : Int32))) then
  (x1 : Option Nat).bind fun a109 =>
  if kdx σ a109 = 12 then
  (fX11_told σ I R a109 (xs (Int32.toNatClampNeg (x3 + (1 : Int32))))).bind fun (I111, r112) =>
  (x2 : Option Nat).bind fun a114 =>
  if kdx σ a114 = 13 then
  (fX12_told σ I111 R a114 (xs (Int32.toNatClampNeg (x3 + (1 : Int32))))).bind fun r116 =>
  if r112 = r116 then
    let v118 := x3 + (7 : Int32)
    q18 σ I111 J D R x1 x2 v118
  else
    none
  else none
  else none
  else none
set_option maxHeartbeats 8000000 in
set_option maxRecDepth 100000 in
theorem wL_law_b3234 {G : Gx} {l : Launch} {xs : Nat → Int32} {Lg : Nat} {σ0 : Shp} {σ : Shp} {I : Nat → Nat → Int32} {J : Nat → Nat → Int64} {D : Nat → Nat → UInt64} {R : Nat → Nat → Option Nat} {q18 : (Shp) → (Nat → Nat → Int32) → (Nat → Nat → Int64) → (Nat → Nat → UInt64) → (Nat → Nat → Option Nat) → (Option Nat) → (Option Nat) → (Int32) → (Option (Unit))} {x1 : Option Nat} {x2 : Option Nat} {x3 : Int32} (hq18 : ∀ (σ : Shp) (I : Nat → Nat → Int32) (J : Nat → Nat → Int64) (D : Nat → Nat → UInt64) (R : Nat → Nat → Option Nat) (x1 : Option Nat) (x2 : Option Nat) (x3 : Int32), q18 σ I J D R x1 x2 x3 = some () → WLaw G l xs Lg σ0 (σ, I, J, D, R) 18 [(0, vR (some 3)), (1, vR x1), (2, vR x2), (3, vI x3)] []) (h : fL_law_b3234 q18 xs Lg σ I J D R x1 x2 x3 = some ()) : WLaw G l xs Lg σ0 (σ, I, J, D, R) 3234 [(0, vR (some 3)), (1, vR x1), (2, vR x2), (3, vI x3)] [] := by
  unfold fL_law_b3234 at h
  refine r_aload_n (pc := 3234) dL_law_3234 rfl 1 rfl ?_
  refine r_aload_n (pc := 3235) dL_law_3235 rfl 0 rfl ?_
  refine r_iload_n (pc := 3236) dL_law_3236 rfl 3 rfl ?_
  refine r_iconst (pc := 3237) dL_law_3237 kc_iconst_1 ?_
  refine r_iadd (pc := 3238) dL_law_3238 ?_
  obtain ⟨g108, h⟩ := gd h
  refine r_scld (pc := 3239) dL_law_3239 g108 ?_
  obtain ⟨a109, ha109, h⟩ := ob h
  refine r_ref1 ha109 ?_
  obtain ⟨g110, h⟩ := gd h
  obtain ⟨⟨I111, r112⟩, hc113, h⟩ := ob h
  refine r_callV1 (pc := 3240) (av := [vI (xs (Int32.toNatClampNeg (x3 + (1 : Int32))))]) (S := []) dL_law_3240 (kX11_told hc113) g110 rfl mkL_322 mwX11_told rfl ⟨Nat.le_of_ble_eq_true rfl, Nat.le_of_ble_eq_true rfl⟩ (Nat.le_of_ble_eq_true rfl) ⟨Nat.le_refl _, Nat.le_refl _⟩ (fun b => b) ?_
  refine r_aload_n (pc := 3243) dL_law_3243 rfl 2 rfl ?_
  refine r_aload_n (pc := 3244) dL_law_3244 rfl 0 rfl ?_
  refine r_iload_n (pc := 3245) dL_law_3245 rfl 3 rfl ?_
  refine r_iconst (pc := 3246) dL_law_3246 kc_iconst_1 ?_
  refine r_iadd (pc := 3247) dL_law_3247 ?_
  refine r_scld (pc := 3248) dL_law_3248 g108 ?_
  obtain ⟨a114, ha114, h⟩ := ob h
  refine r_ref1 ha114 ?_
  obtain ⟨g115, h⟩ := gd h
  obtain ⟨r116, hc117, h⟩ := ob h
  refine r_callV1 (pc := 3249) (av := [vI (xs (Int32.toNatClampNeg (x3 + (1 : Int32))))]) (S := [vI r112]) dL_law_3249 (kX12_told hc117) g115 rfl mkL_325 mwX12_told rfl ⟨Nat.le_of_ble_eq_true rfl, Nat.le_of_ble_eq_true rfl⟩ (Nat.le_of_ble_eq_true rfl) ⟨Nat.le_refl _, Nat.le_refl _⟩ (fun b => b) ?_
  refine r_icmp_eq (pc := 3252) (tgt := 3270) dL_law_3252 rfl (fun c => ?_) (fun c => ?_)
  · have h := it h c
    refine r_iinc (pc := 3270) (v := (x3 + (7 : Int32))) (L' := [(3, vI (x3 + (7 : Int32))), (0, vR (some 3)), (1, vR x1), (2, vR x2)]) dL_law_3270 3 rfl (kc_inc_7 _) (by decide) rfl ?_
    refine r_goto (pc := 3273) (tgt := 18) dL_law_3273 rfl ?_
    refine r_sub [1, 2, 3, 0] rfl ?_
    exact hq18 _ _ _ _ _ _ _ _ h
  · have h := ie h c
    refine r_iconst (pc := 3255) dL_law_3255 kc_iconst_0 ?_
    cases h
def fL_law_b3191 (q18 : (Shp) → (Nat → Nat → Int32) → (Nat → Nat → Int64) → (Nat → Nat → UInt64) → (Nat → Nat → Option Nat) → (Option Nat) → (Option Nat) → (Int32) → (Option (Unit))) (xs : Nat → Int32) (Lg : Nat) (σ : Shp) (I : Nat → Nat → Int32) (J : Nat → Nat → Int64) (D : Nat → Nat → UInt64) (R : Nat → Nat → Option Nat) (x1 : Option Nat) (x2 : Option Nat) (x3 : Int32) : Option Unit :=
  if ¬ ((x3 + (1 : Int32)) < 0 ∨ Lg ≤ Int32.toNatClampNeg (x3 + (1 : Int32))) then
  if ¬ ((x3 + (2 : Int32)) < 0 ∨ Lg ≤ Int32.toNatClampNeg (x3 + (2 : Int32))) then
  if ¬ ((x3 + (3 : Int32)) < 0 ∨ Lg ≤ Int32.toNatClampNeg (x3 + (3 : Int32))) then
  (x1 : Option Nat).bind fun a122 =>
  if kdx σ a122 = 12 then
  (fX11_damage σ I R a122 (xs (Int32.toNatClampNeg (x3 + (1 : Int32)))) (xs (Int32.toNatClampNeg (x3 + (2 : Int32)))) (xs (Int32.toNatClampNeg (x3 + (3 : Int32))))).bind fun (I124, r125) =>
  (x2 : Option Nat).bind fun a127 =>
  if kdx σ a127 = 13 then
  (fX12_damage σ I124 R a127 (xs (Int32.toNatClampNeg (x3 + (1 : Int32)))) (xs (Int32.toNatClampNeg (x3 + (2 : Int32)))) (xs (Int32.toNatClampNeg (x3 + (3 : Int32))))).bind fun (I129, r130) =>
  if r125 = r130 then
    let v132 := x3 + (7 : Int32)
    q18 σ I129 J D R x1 x2 v132
  else
    none
  else none
  else none
  else none
  else none
  else none
set_option maxHeartbeats 8000000 in
set_option maxRecDepth 100000 in
theorem wL_law_b3191 {G : Gx} {l : Launch} {xs : Nat → Int32} {Lg : Nat} {σ0 : Shp} {σ : Shp} {I : Nat → Nat → Int32} {J : Nat → Nat → Int64} {D : Nat → Nat → UInt64} {R : Nat → Nat → Option Nat} {q18 : (Shp) → (Nat → Nat → Int32) → (Nat → Nat → Int64) → (Nat → Nat → UInt64) → (Nat → Nat → Option Nat) → (Option Nat) → (Option Nat) → (Int32) → (Option (Unit))} {x1 : Option Nat} {x2 : Option Nat} {x3 : Int32} (hq18 : ∀ (σ : Shp) (I : Nat → Nat → Int32) (J : Nat → Nat → Int64) (D : Nat → Nat → UInt64) (R : Nat → Nat → Option Nat) (x1 : Option Nat) (x2 : Option Nat) (x3 : Int32), q18 σ I J D R x1 x2 x3 = some () → WLaw G l xs Lg σ0 (σ, I, J, D, R) 18 [(0, vR (some 3)), (1, vR x1), (2, vR x2), (3, vI x3)] []) (h : fL_law_b3191 q18 xs Lg σ I J D R x1 x2 x3 = some ()) : WLaw G l xs Lg σ0 (σ, I, J, D, R) 3191 [(0, vR (some 3)), (1, vR x1), (2, vR x2), (3, vI x3)] [] := by
  unfold fL_law_b3191 at h
  refine r_aload_n (pc := 3191) dL_law_3191 rfl 1 rfl ?_
  refine r_aload_n (pc := 3192) dL_law_3192 rfl 0 rfl ?_
  refine r_iload_n (pc := 3193) dL_law_3193 rfl 3 rfl ?_
  refine r_iconst (pc := 3194) dL_law_3194 kc_iconst_1 ?_
  refine r_iadd (pc := 3195) dL_law_3195 ?_
  obtain ⟨g119, h⟩ := gd h
  refine r_scld (pc := 3196) dL_law_3196 g119 ?_
  refine r_aload_n (pc := 3197) dL_law_3197 rfl 0 rfl ?_
  refine r_iload_n (pc := 3198) dL_law_3198 rfl 3 rfl ?_
  refine r_iconst (pc := 3199) dL_law_3199 kc_iconst_2 ?_
  refine r_iadd (pc := 3200) dL_law_3200 ?_
  obtain ⟨g120, h⟩ := gd h
  refine r_scld (pc := 3201) dL_law_3201 g120 ?_
  refine r_aload_n (pc := 3202) dL_law_3202 rfl 0 rfl ?_
  refine r_iload_n (pc := 3203) dL_law_3203 rfl 3 rfl ?_
  refine r_iconst (pc := 3204) dL_law_3204 kc_iconst_3 ?_
  refine r_iadd (pc := 3205) dL_law_3205 ?_
  obtain ⟨g121, h⟩ := gd h
  refine r_scld (pc := 3206) dL_law_3206 g121 ?_
  obtain ⟨a122, ha122, h⟩ := ob h
  refine r_ref3 ha122 ?_
  obtain ⟨g123, h⟩ := gd h
  obtain ⟨⟨I124, r125⟩, hc126, h⟩ := ob h
  refine r_callV1 (pc := 3207) (av := [vI (xs (Int32.toNatClampNeg (x3 + (1 : Int32)))), vI (xs (Int32.toNatClampNeg (x3 + (2 : Int32)))), vI (xs (Int32.toNatClampNeg (x3 + (3 : Int32))))]) (S := []) dL_law_3207 (kX11_damage hc126) g123 rfl mkL_318 mwX11_damage rfl ⟨Nat.le_of_ble_eq_true rfl, Nat.le_of_ble_eq_true rfl⟩ (Nat.le_of_ble_eq_true rfl) ⟨Nat.le_refl _, Nat.le_refl _⟩ (fun b => b) ?_
  refine r_aload_n (pc := 3210) dL_law_3210 rfl 2 rfl ?_
  refine r_aload_n (pc := 3211) dL_law_3211 rfl 0 rfl ?_
  refine r_iload_n (pc := 3212) dL_law_3212 rfl 3 rfl ?_
  refine r_iconst (pc := 3213) dL_law_3213 kc_iconst_1 ?_
  refine r_iadd (pc := 3214) dL_law_3214 ?_
  refine r_scld (pc := 3215) dL_law_3215 g119 ?_
  refine r_aload_n (pc := 3216) dL_law_3216 rfl 0 rfl ?_
  refine r_iload_n (pc := 3217) dL_law_3217 rfl 3 rfl ?_
  refine r_iconst (pc := 3218) dL_law_3218 kc_iconst_2 ?_
  refine r_iadd (pc := 3219) dL_law_3219 ?_
  refine r_scld (pc := 3220) dL_law_3220 g120 ?_
  refine r_aload_n (pc := 3221) dL_law_3221 rfl 0 rfl ?_
  refine r_iload_n (pc := 3222) dL_law_3222 rfl 3 rfl ?_
  refine r_iconst (pc := 3223) dL_law_3223 kc_iconst_3 ?_
  refine r_iadd (pc := 3224) dL_law_3224 ?_
  refine r_scld (pc := 3225) dL_law_3225 g121 ?_
  obtain ⟨a127, ha127, h⟩ := ob h
  refine r_ref3 ha127 ?_
  obtain ⟨g128, h⟩ := gd h
  obtain ⟨⟨I129, r130⟩, hc131, h⟩ := ob h
  refine r_callV1 (pc := 3226) (av := [vI (xs (Int32.toNatClampNeg (x3 + (1 : Int32)))), vI (xs (Int32.toNatClampNeg (x3 + (2 : Int32)))), vI (xs (Int32.toNatClampNeg (x3 + (3 : Int32))))]) (S := [vI r125]) dL_law_3226 (kX12_damage hc131) g128 rfl mkL_321 mwX12_damage rfl ⟨Nat.le_of_ble_eq_true rfl, Nat.le_of_ble_eq_true rfl⟩ (Nat.le_of_ble_eq_true rfl) ⟨Nat.le_refl _, Nat.le_refl _⟩ (fun b => b) ?_
  refine r_icmp_eq (pc := 3229) (tgt := 3270) dL_law_3229 rfl (fun c => ?_) (fun c => ?_)
  · have h := it h c
    refine r_iinc (pc := 3270) (v := (x3 + (7 : Int32))) (L' := [(3, vI (x3 + (7 : Int32))), (0, vR (some 3)), (1, vR x1), (2, vR x2)]) dL_law_3270 3 rfl (kc_inc_7 _) (by decide) rfl ?_
    refine r_goto (pc := 3273) (tgt := 18) dL_law_3273 rfl ?_
    refine r_sub [1, 2, 3, 0] rfl ?_
    exact hq18 _ _ _ _ _ _ _ _ h
  · have h := ie h c
    refine r_iconst (pc := 3232) dL_law_3232 kc_iconst_0 ?_
    cases h
def fL_law_b3158 (q18 : (Shp) → (Nat → Nat → Int32) → (Nat → Nat → Int64) → (Nat → Nat → UInt64) → (Nat → Nat → Option Nat) → (Option Nat) → (Option Nat) → (Int32) → (Option (Unit))) (xs : Nat → Int32) (Lg : Nat) (σ : Shp) (I : Nat → Nat → Int32) (J : Nat → Nat → Int64) (D : Nat → Nat → UInt64) (R : Nat → Nat → Option Nat) (x1 : Option Nat) (x2 : Option Nat) (x3 : Int32) : Option Unit :=
  if ¬ ((x3 + (1 : Int32)) < 0 ∨ Lg ≤ Int32.toNatClampNeg (x3 + (1 : Int32))) then
  if ¬ ((x3 + (2 : Int32)) < 0 ∨ Lg ≤ Int32.toNatClampNeg (x3 + (2 : Int32))) then
  (x1 : Option Nat).bind fun a135 =>
  if kdx σ a135 = 12 then
  (fX11_octet σ I R a135 (xs (Int32.toNatClampNeg (x3 + (1 : Int32)))) (xs (Int32.toNatClampNeg (x3 + (2 : Int32))))).bind fun r137 =>
  (x2 : Option Nat).bind fun a139 =>
  if kdx σ a139 = 13 then
  (fX12_octet σ I R a139 (xs (Int32.toNatClampNeg (x3 + (1 : Int32)))) (xs (Int32.toNatClampNeg (x3 + (2 : Int32))))).bind fun r141 =>
  if r137 = r141 then
    let v143 := x3 + (7 : Int32)
    q18 σ I J D R x1 x2 v143
  else
    none
  else none
  else none
  else none
  else none
set_option maxHeartbeats 8000000 in
set_option maxRecDepth 100000 in
theorem wL_law_b3158 {G : Gx} {l : Launch} {xs : Nat → Int32} {Lg : Nat} {σ0 : Shp} {σ : Shp} {I : Nat → Nat → Int32} {J : Nat → Nat → Int64} {D : Nat → Nat → UInt64} {R : Nat → Nat → Option Nat} {q18 : (Shp) → (Nat → Nat → Int32) → (Nat → Nat → Int64) → (Nat → Nat → UInt64) → (Nat → Nat → Option Nat) → (Option Nat) → (Option Nat) → (Int32) → (Option (Unit))} {x1 : Option Nat} {x2 : Option Nat} {x3 : Int32} (hq18 : ∀ (σ : Shp) (I : Nat → Nat → Int32) (J : Nat → Nat → Int64) (D : Nat → Nat → UInt64) (R : Nat → Nat → Option Nat) (x1 : Option Nat) (x2 : Option Nat) (x3 : Int32), q18 σ I J D R x1 x2 x3 = some () → WLaw G l xs Lg σ0 (σ, I, J, D, R) 18 [(0, vR (some 3)), (1, vR x1), (2, vR x2), (3, vI x3)] []) (h : fL_law_b3158 q18 xs Lg σ I J D R x1 x2 x3 = some ()) : WLaw G l xs Lg σ0 (σ, I, J, D, R) 3158 [(0, vR (some 3)), (1, vR x1), (2, vR x2), (3, vI x3)] [] := by
  unfold fL_law_b3158 at h
  refine r_aload_n (pc := 3158) dL_law_3158 rfl 1 rfl ?_
  refine r_aload_n (pc := 3159) dL_law_3159 rfl 0 rfl ?_
  refine r_iload_n (pc := 3160) dL_law_3160 rfl 3 rfl ?_
  refine r_iconst (pc := 3161) dL_law_3161 kc_iconst_1 ?_
  refine r_iadd (pc := 3162) dL_law_3162 ?_
  obtain ⟨g133, h⟩ := gd h
  refine r_scld (pc := 3163) dL_law_3163 g133 ?_
  refine r_aload_n (pc := 3164) dL_law_3164 rfl 0 rfl ?_
  refine r_iload_n (pc := 3165) dL_law_3165 rfl 3 rfl ?_
  refine r_iconst (pc := 3166) dL_law_3166 kc_iconst_2 ?_
  refine r_iadd (pc := 3167) dL_law_3167 ?_
  obtain ⟨g134, h⟩ := gd h
  refine r_scld (pc := 3168) dL_law_3168 g134 ?_
  obtain ⟨a135, ha135, h⟩ := ob h
  refine r_ref2 ha135 ?_
  obtain ⟨g136, h⟩ := gd h
  obtain ⟨r137, hc138, h⟩ := ob h
  refine r_callV1 (pc := 3169) (av := [vI (xs (Int32.toNatClampNeg (x3 + (1 : Int32)))), vI (xs (Int32.toNatClampNeg (x3 + (2 : Int32))))]) (S := []) dL_law_3169 (kX11_octet hc138) g136 rfl mkL_314 mwX11_octet rfl ⟨Nat.le_of_ble_eq_true rfl, Nat.le_of_ble_eq_true rfl⟩ (Nat.le_of_ble_eq_true rfl) ⟨Nat.le_refl _, Nat.le_refl _⟩ (fun b => b) ?_
  refine r_aload_n (pc := 3172) dL_law_3172 rfl 2 rfl ?_
  refine r_aload_n (pc := 3173) dL_law_3173 rfl 0 rfl ?_
  refine r_iload_n (pc := 3174) dL_law_3174 rfl 3 rfl ?_
  refine r_iconst (pc := 3175) dL_law_3175 kc_iconst_1 ?_
  refine r_iadd (pc := 3176) dL_law_3176 ?_
  refine r_scld (pc := 3177) dL_law_3177 g133 ?_
  refine r_aload_n (pc := 3178) dL_law_3178 rfl 0 rfl ?_
  refine r_iload_n (pc := 3179) dL_law_3179 rfl 3 rfl ?_
  refine r_iconst (pc := 3180) dL_law_3180 kc_iconst_2 ?_
  refine r_iadd (pc := 3181) dL_law_3181 ?_
  refine r_scld (pc := 3182) dL_law_3182 g134 ?_
  obtain ⟨a139, ha139, h⟩ := ob h
  refine r_ref2 ha139 ?_
  obtain ⟨g140, h⟩ := gd h
  obtain ⟨r141, hc142, h⟩ := ob h
  refine r_callV1 (pc := 3183) (av := [vI (xs (Int32.toNatClampNeg (x3 + (1 : Int32)))), vI (xs (Int32.toNatClampNeg (x3 + (2 : Int32))))]) (S := [vI r137]) dL_law_3183 (kX12_octet hc142) g140 rfl mkL_317 mwX12_octet rfl ⟨Nat.le_of_ble_eq_true rfl, Nat.le_of_ble_eq_true rfl⟩ (Nat.le_of_ble_eq_true rfl) ⟨Nat.le_refl _, Nat.le_refl _⟩ (fun b => b) ?_
  refine r_icmp_eq (pc := 3186) (tgt := 3270) dL_law_3186 rfl (fun c => ?_) (fun c => ?_)
  · have h := it h c
    refine r_iinc (pc := 3270) (v := (x3 + (7 : Int32))) (L' := [(3, vI (x3 + (7 : Int32))), (0, vR (some 3)), (1, vR x1), (2, vR x2)]) dL_law_3270 3 rfl (kc_inc_7 _) (by decide) rfl ?_
    refine r_goto (pc := 3273) (tgt := 18) dL_law_3273 rfl ?_
    refine r_sub [1, 2, 3, 0] rfl ?_
    exact hq18 _ _ _ _ _ _ _ _ h
  · have h := ie h c
    refine r_iconst (pc := 3189) dL_law_3189 kc_iconst_0 ?_
    cases h
def fL_law_b3124 (q18 : (Shp) → (Nat → Nat → Int32) → (Nat → Nat → Int64) → (Nat → Nat → UInt64) → (Nat → Nat → Option Nat) → (Option Nat) → (Option Nat) → (Int32) → (Option (Unit))) (xs : Nat → Int32) (Lg : Nat) (σ : Shp) (I : Nat → Nat → Int32) (J : Nat → Nat → Int64) (D : Nat → Nat → UInt64) (R : Nat → Nat → Option Nat) (x1 : Option Nat) (x2 : Option Nat) (x3 : Int32) : Option Unit :=
  if ¬ ((x3 + (1 : Int32)) < 0 ∨ Lg ≤ Int32.toNatClampNeg (x3 + (1 : Int32))) then
  if ¬ ((x3 + (2 : Int32)) < 0 ∨ Lg ≤ Int32.toNatClampNeg (x3 + (2 : Int32))) then
  (x1 : Option Nat).bind fun a146 =>
  if kdx σ a146 = 12 then
  (fX11_page σ I R a146 (xs (Int32.toNatClampNeg (x3 + (1 : Int32)))) (xs (Int32.toNatClampNeg (x3 + (2 : Int32))))).bind fun (I148, r149) =>
  (x2 : Option Nat).bind fun a151 =>
  if kdx σ a151 = 13 then
  (fX12_page σ I148 R a151 (xs (Int32.toNatClampNeg (x3 + (1 : Int32)))) (xs (Int32.toNatClampNeg (x3 + (2 : Int32))))).bind fun r153 =>
  if r149 = r153 then
    let v155 := x3 + (7 : Int32)
    q18 σ I148 J D R x1 x2 v155
  else
    none
  else none
  else none
  else none
  else none
set_option maxHeartbeats 8000000 in
set_option maxRecDepth 100000 in
theorem wL_law_b3124 {G : Gx} {l : Launch} {xs : Nat → Int32} {Lg : Nat} {σ0 : Shp} {σ : Shp} {I : Nat → Nat → Int32} {J : Nat → Nat → Int64} {D : Nat → Nat → UInt64} {R : Nat → Nat → Option Nat} {q18 : (Shp) → (Nat → Nat → Int32) → (Nat → Nat → Int64) → (Nat → Nat → UInt64) → (Nat → Nat → Option Nat) → (Option Nat) → (Option Nat) → (Int32) → (Option (Unit))} {x1 : Option Nat} {x2 : Option Nat} {x3 : Int32} (hq18 : ∀ (σ : Shp) (I : Nat → Nat → Int32) (J : Nat → Nat → Int64) (D : Nat → Nat → UInt64) (R : Nat → Nat → Option Nat) (x1 : Option Nat) (x2 : Option Nat) (x3 : Int32), q18 σ I J D R x1 x2 x3 = some () → WLaw G l xs Lg σ0 (σ, I, J, D, R) 18 [(0, vR (some 3)), (1, vR x1), (2, vR x2), (3, vI x3)] []) (h : fL_law_b3124 q18 xs Lg σ I J D R x1 x2 x3 = some ()) : WLaw G l xs Lg σ0 (σ, I, J, D, R) 3124 [(0, vR (some 3)), (1, vR x1), (2, vR x2), (3, vI x3)] [] := by
  unfold fL_law_b3124 at h
  refine r_aload_n (pc := 3124) dL_law_3124 rfl 1 rfl ?_
  refine r_aload_n (pc := 3125) dL_law_3125 rfl 0 rfl ?_
  refine r_iload_n (pc := 3126) dL_law_3126 rfl 3 rfl ?_
  refine r_iconst (pc := 3127) dL_law_3127 kc_iconst_1 ?_
  refine r_iadd (pc := 3128) dL_law_3128 ?_
  obtain ⟨g144, h⟩ := gd h
  refine r_scld (pc := 3129) dL_law_3129 g144 ?_
  refine r_aload_n (pc := 3130) dL_law_3130 rfl 0 rfl ?_
  refine r_iload_n (pc := 3131) dL_law_3131 rfl 3 rfl ?_
  refine r_iconst (pc := 3132) dL_law_3132 kc_iconst_2 ?_
  refine r_iadd (pc := 3133) dL_law_3133 ?_
  obtain ⟨g145, h⟩ := gd h
  refine r_scld (pc := 3134) dL_law_3134 g145 ?_
  obtain ⟨a146, ha146, h⟩ := ob h
  refine r_ref2 ha146 ?_
  obtain ⟨g147, h⟩ := gd h
  obtain ⟨⟨I148, r149⟩, hc150, h⟩ := ob h
  refine r_callV1 (pc := 3135) (av := [vI (xs (Int32.toNatClampNeg (x3 + (1 : Int32)))), vI (xs (Int32.toNatClampNeg (x3 + (2 : Int32))))]) (S := []) dL_law_3135 (kX11_page hc150) g147 rfl mkL_310 mwX11_page rfl ⟨Nat.le_of_ble_eq_true rfl, Nat.le_of_ble_eq_true rfl⟩ (Nat.le_of_ble_eq_true rfl) ⟨Nat.le_refl _, Nat.le_refl _⟩ (fun b => b) ?_
  refine r_aload_n (pc := 3138) dL_law_3138 rfl 2 rfl ?_
  refine r_aload_n (pc := 3139) dL_law_3139 rfl 0 rfl ?_
  refine r_iload_n (pc := 3140) dL_law_3140 rfl 3 rfl ?_
  refine r_iconst (pc := 3141) dL_law_3141 kc_iconst_1 ?_
  refine r_iadd (pc := 3142) dL_law_3142 ?_
  refine r_scld (pc := 3143) dL_law_3143 g144 ?_
  refine r_aload_n (pc := 3144) dL_law_3144 rfl 0 rfl ?_
  refine r_iload_n (pc := 3145) dL_law_3145 rfl 3 rfl ?_
  refine r_iconst (pc := 3146) dL_law_3146 kc_iconst_2 ?_
  refine r_iadd (pc := 3147) dL_law_3147 ?_
  refine r_scld (pc := 3148) dL_law_3148 g145 ?_
  obtain ⟨a151, ha151, h⟩ := ob h
  refine r_ref2 ha151 ?_
  obtain ⟨g152, h⟩ := gd h
  obtain ⟨r153, hc154, h⟩ := ob h
  refine r_callV1 (pc := 3149) (av := [vI (xs (Int32.toNatClampNeg (x3 + (1 : Int32)))), vI (xs (Int32.toNatClampNeg (x3 + (2 : Int32))))]) (S := [vL r149]) dL_law_3149 (kX12_page hc154) g152 rfl mkL_313 mwX12_page rfl ⟨Nat.le_of_ble_eq_true rfl, Nat.le_of_ble_eq_true rfl⟩ (Nat.le_of_ble_eq_true rfl) ⟨Nat.le_refl _, Nat.le_refl _⟩ (fun b => b) ?_
  refine r_lcmp (pc := 3152) dL_law_3152 ?_
  refine r_if_eq (pc := 3153) (tgt := 3270) dL_law_3153 rfl (fun c => ?_) (fun c => ?_)
  · have h := it h (lgc_eq.mp c)
    refine r_iinc (pc := 3270) (v := (x3 + (7 : Int32))) (L' := [(3, vI (x3 + (7 : Int32))), (0, vR (some 3)), (1, vR x1), (2, vR x2)]) dL_law_3270 3 rfl (kc_inc_7 _) (by decide) rfl ?_
    refine r_goto (pc := 3273) (tgt := 18) dL_law_3273 rfl ?_
    refine r_sub [1, 2, 3, 0] rfl ?_
    exact hq18 _ _ _ _ _ _ _ _ h
  · have h := ie h (fun q => c (lgc_eq.mpr q))
    refine r_iconst (pc := 3156) dL_law_3156 kc_iconst_0 ?_
    cases h
def fL_law_b3111 (q18 : (Shp) → (Nat → Nat → Int32) → (Nat → Nat → Int64) → (Nat → Nat → UInt64) → (Nat → Nat → Option Nat) → (Option Nat) → (Option Nat) → (Int32) → (Option (Unit))) (xs : Nat → Int32) (Lg : Nat) (σ : Shp) (I : Nat → Nat → Int32) (J : Nat → Nat → Int64) (D : Nat → Nat → UInt64) (R : Nat → Nat → Option Nat) (x1 : Option Nat) (x2 : Option Nat) (x3 : Int32) : Option Unit :=
  (x1 : Option Nat).bind fun a156 =>
  if kdx σ a156 = 12 then
  (fX11_open1 σ I R a156).bind fun (I158, r159) =>
  (x2 : Option Nat).bind fun a161 =>
  if kdx σ a161 = 13 then
  (fX12_open1 σ I158 R a161).bind fun (I163, r164) =>
  if r159 = r164 then
    let v166 := x3 + (7 : Int32)
    q18 σ I163 J D R x1 x2 v166
  else
    none
  else none
  else none
set_option maxHeartbeats 8000000 in
set_option maxRecDepth 100000 in
theorem wL_law_b3111 {G : Gx} {l : Launch} {xs : Nat → Int32} {Lg : Nat} {σ0 : Shp} {σ : Shp} {I : Nat → Nat → Int32} {J : Nat → Nat → Int64} {D : Nat → Nat → UInt64} {R : Nat → Nat → Option Nat} {q18 : (Shp) → (Nat → Nat → Int32) → (Nat → Nat → Int64) → (Nat → Nat → UInt64) → (Nat → Nat → Option Nat) → (Option Nat) → (Option Nat) → (Int32) → (Option (Unit))} {x1 : Option Nat} {x2 : Option Nat} {x3 : Int32} (hq18 : ∀ (σ : Shp) (I : Nat → Nat → Int32) (J : Nat → Nat → Int64) (D : Nat → Nat → UInt64) (R : Nat → Nat → Option Nat) (x1 : Option Nat) (x2 : Option Nat) (x3 : Int32), q18 σ I J D R x1 x2 x3 = some () → WLaw G l xs Lg σ0 (σ, I, J, D, R) 18 [(0, vR (some 3)), (1, vR x1), (2, vR x2), (3, vI x3)] []) (h : fL_law_b3111 q18 xs Lg σ I J D R x1 x2 x3 = some ()) : WLaw G l xs Lg σ0 (σ, I, J, D, R) 3111 [(0, vR (some 3)), (1, vR x1), (2, vR x2), (3, vI x3)] [] := by
  unfold fL_law_b3111 at h
  refine r_aload_n (pc := 3111) dL_law_3111 rfl 1 rfl ?_
  obtain ⟨a156, ha156, h⟩ := ob h
  refine r_ref0 ha156 ?_
  obtain ⟨g157, h⟩ := gd h
  obtain ⟨⟨I158, r159⟩, hc160, h⟩ := ob h
  refine r_callV1 (pc := 3112) (av := []) (S := []) dL_law_3112 (kX11_open1 hc160) g157 rfl mkL_306 mwX11_open1 rfl ⟨Nat.le_of_ble_eq_true rfl, Nat.le_of_ble_eq_true rfl⟩ (Nat.le_of_ble_eq_true rfl) ⟨Nat.le_refl _, Nat.le_refl _⟩ (fun b => b) ?_
  refine r_aload_n (pc := 3115) dL_law_3115 rfl 2 rfl ?_
  obtain ⟨a161, ha161, h⟩ := ob h
  refine r_ref0 ha161 ?_
  obtain ⟨g162, h⟩ := gd h
  obtain ⟨⟨I163, r164⟩, hc165, h⟩ := ob h
  refine r_callV1 (pc := 3116) (av := []) (S := [vI r159]) dL_law_3116 (kX12_open1 hc165) g162 rfl mkL_309 mwX12_open1 rfl ⟨Nat.le_of_ble_eq_true rfl, Nat.le_of_ble_eq_true rfl⟩ (Nat.le_of_ble_eq_true rfl) ⟨Nat.le_refl _, Nat.le_refl _⟩ (fun b => b) ?_
  refine r_icmp_eq (pc := 3119) (tgt := 3270) dL_law_3119 rfl (fun c => ?_) (fun c => ?_)
  · have h := it h c
    refine r_iinc (pc := 3270) (v := (x3 + (7 : Int32))) (L' := [(3, vI (x3 + (7 : Int32))), (0, vR (some 3)), (1, vR x1), (2, vR x2)]) dL_law_3270 3 rfl (kc_inc_7 _) (by decide) rfl ?_
    refine r_goto (pc := 3273) (tgt := 18) dL_law_3273 rfl ?_
    refine r_sub [1, 2, 3, 0] rfl ?_
    exact hq18 _ _ _ _ _ _ _ _ h
  · have h := ie h c
    refine r_iconst (pc := 3122) dL_law_3122 kc_iconst_0 ?_
    cases h
def fL_law_b3088 (q18 : (Shp) → (Nat → Nat → Int32) → (Nat → Nat → Int64) → (Nat → Nat → UInt64) → (Nat → Nat → Option Nat) → (Option Nat) → (Option Nat) → (Int32) → (Option (Unit))) (xs : Nat → Int32) (Lg : Nat) (σ : Shp) (I : Nat → Nat → Int32) (J : Nat → Nat → Int64) (D : Nat → Nat → UInt64) (R : Nat → Nat → Option Nat) (x1 : Option Nat) (x2 : Option Nat) (x3 : Int32) : Option Unit :=
  if ¬ ((x3 + (1 : Int32)) < 0 ∨ Lg ≤ Int32.toNatClampNeg (x3 + (1 : Int32))) then
  (x1 : Option Nat).bind fun a168 =>
  if kdx σ a168 = 12 then
  (fX11_power σ I R a168 (xs (Int32.toNatClampNeg (x3 + (1 : Int32))))).bind fun (I170, r171) =>
  (x2 : Option Nat).bind fun a173 =>
  if kdx σ a173 = 13 then
  (fX12_power σ I170 a173 (xs (Int32.toNatClampNeg (x3 + (1 : Int32))))).bind fun (I175, r176) =>
  if r171 = r176 then
    let v178 := x3 + (7 : Int32)
    q18 σ I175 J D R x1 x2 v178
  else
    none
  else none
  else none
  else none
set_option maxHeartbeats 8000000 in
set_option maxRecDepth 100000 in
theorem wL_law_b3088 {G : Gx} {l : Launch} {xs : Nat → Int32} {Lg : Nat} {σ0 : Shp} {σ : Shp} {I : Nat → Nat → Int32} {J : Nat → Nat → Int64} {D : Nat → Nat → UInt64} {R : Nat → Nat → Option Nat} {q18 : (Shp) → (Nat → Nat → Int32) → (Nat → Nat → Int64) → (Nat → Nat → UInt64) → (Nat → Nat → Option Nat) → (Option Nat) → (Option Nat) → (Int32) → (Option (Unit))} {x1 : Option Nat} {x2 : Option Nat} {x3 : Int32} (hq18 : ∀ (σ : Shp) (I : Nat → Nat → Int32) (J : Nat → Nat → Int64) (D : Nat → Nat → UInt64) (R : Nat → Nat → Option Nat) (x1 : Option Nat) (x2 : Option Nat) (x3 : Int32), q18 σ I J D R x1 x2 x3 = some () → WLaw G l xs Lg σ0 (σ, I, J, D, R) 18 [(0, vR (some 3)), (1, vR x1), (2, vR x2), (3, vI x3)] []) (h : fL_law_b3088 q18 xs Lg σ I J D R x1 x2 x3 = some ()) : WLaw G l xs Lg σ0 (σ, I, J, D, R) 3088 [(0, vR (some 3)), (1, vR x1), (2, vR x2), (3, vI x3)] [] := by
  unfold fL_law_b3088 at h
  refine r_aload_n (pc := 3088) dL_law_3088 rfl 1 rfl ?_
  refine r_aload_n (pc := 3089) dL_law_3089 rfl 0 rfl ?_
  refine r_iload_n (pc := 3090) dL_law_3090 rfl 3 rfl ?_
  refine r_iconst (pc := 3091) dL_law_3091 kc_iconst_1 ?_
  refine r_iadd (pc := 3092) dL_law_3092 ?_
  obtain ⟨g167, h⟩ := gd h
  refine r_scld (pc := 3093) dL_law_3093 g167 ?_
  obtain ⟨a168, ha168, h⟩ := ob h
  refine r_ref1 ha168 ?_
  obtain ⟨g169, h⟩ := gd h
  obtain ⟨⟨I170, r171⟩, hc172, h⟩ := ob h
  refine r_callV1 (pc := 3094) (av := [vI (xs (Int32.toNatClampNeg (x3 + (1 : Int32))))]) (S := []) dL_law_3094 (kX11_power hc172) g169 rfl mkL_302 mwX11_power rfl ⟨Nat.le_of_ble_eq_true rfl, Nat.le_of_ble_eq_true rfl⟩ (Nat.le_of_ble_eq_true rfl) ⟨Nat.le_refl _, Nat.le_refl _⟩ (fun b => b) ?_
  refine r_aload_n (pc := 3097) dL_law_3097 rfl 2 rfl ?_
  refine r_aload_n (pc := 3098) dL_law_3098 rfl 0 rfl ?_
  refine r_iload_n (pc := 3099) dL_law_3099 rfl 3 rfl ?_
  refine r_iconst (pc := 3100) dL_law_3100 kc_iconst_1 ?_
  refine r_iadd (pc := 3101) dL_law_3101 ?_
  refine r_scld (pc := 3102) dL_law_3102 g167 ?_
  obtain ⟨a173, ha173, h⟩ := ob h
  refine r_ref1 ha173 ?_
  obtain ⟨g174, h⟩ := gd h
  obtain ⟨⟨I175, r176⟩, hc177, h⟩ := ob h
  refine r_callV1 (pc := 3103) (av := [vI (xs (Int32.toNatClampNeg (x3 + (1 : Int32))))]) (S := [vI r171]) dL_law_3103 (kX12_power hc177) g174 rfl mkL_305 mwX12_power rfl ⟨Nat.le_of_ble_eq_true rfl, Nat.le_of_ble_eq_true rfl⟩ (Nat.le_of_ble_eq_true rfl) ⟨Nat.le_refl _, Nat.le_refl _⟩ (fun b => b) ?_
  refine r_icmp_eq (pc := 3106) (tgt := 3270) dL_law_3106 rfl (fun c => ?_) (fun c => ?_)
  · have h := it h c
    refine r_iinc (pc := 3270) (v := (x3 + (7 : Int32))) (L' := [(3, vI (x3 + (7 : Int32))), (0, vR (some 3)), (1, vR x1), (2, vR x2)]) dL_law_3270 3 rfl (kc_inc_7 _) (by decide) rfl ?_
    refine r_goto (pc := 3273) (tgt := 18) dL_law_3273 rfl ?_
    refine r_sub [1, 2, 3, 0] rfl ?_
    exact hq18 _ _ _ _ _ _ _ _ h
  · have h := ie h c
    refine r_iconst (pc := 3109) dL_law_3109 kc_iconst_0 ?_
    cases h
def fL_law_b3065 (q18 : (Shp) → (Nat → Nat → Int32) → (Nat → Nat → Int64) → (Nat → Nat → UInt64) → (Nat → Nat → Option Nat) → (Option Nat) → (Option Nat) → (Int32) → (Option (Unit))) (xs : Nat → Int32) (Lg : Nat) (σ : Shp) (I : Nat → Nat → Int32) (J : Nat → Nat → Int64) (D : Nat → Nat → UInt64) (R : Nat → Nat → Option Nat) (x1 : Option Nat) (x2 : Option Nat) (x3 : Int32) : Option Unit :=
  if ¬ ((x3 + (1 : Int32)) < 0 ∨ Lg ≤ Int32.toNatClampNeg (x3 + (1 : Int32))) then
  (x1 : Option Nat).bind fun a180 =>
  if kdx σ a180 = 12 then
  (fX11_write σ I J R a180 (xs (Int32.toNatClampNeg (x3 + (1 : Int32))))).bind fun (I182, r183) =>
  (x2 : Option Nat).bind fun a185 =>
  if kdx σ a185 = 13 then
  (fX12_write σ I182 J R a185 (xs (Int32.toNatClampNeg (x3 + (1 : Int32))))).bind fun (I187, r188) =>
  if r183 = r188 then
    let v190 := x3 + (7 : Int32)
    q18 σ I187 J D R x1 x2 v190
  else
    none
  else none
  else none
  else none
set_option maxHeartbeats 8000000 in
set_option maxRecDepth 100000 in
theorem wL_law_b3065 {G : Gx} {l : Launch} {xs : Nat → Int32} {Lg : Nat} {σ0 : Shp} {σ : Shp} {I : Nat → Nat → Int32} {J : Nat → Nat → Int64} {D : Nat → Nat → UInt64} {R : Nat → Nat → Option Nat} {q18 : (Shp) → (Nat → Nat → Int32) → (Nat → Nat → Int64) → (Nat → Nat → UInt64) → (Nat → Nat → Option Nat) → (Option Nat) → (Option Nat) → (Int32) → (Option (Unit))} {x1 : Option Nat} {x2 : Option Nat} {x3 : Int32} (hq18 : ∀ (σ : Shp) (I : Nat → Nat → Int32) (J : Nat → Nat → Int64) (D : Nat → Nat → UInt64) (R : Nat → Nat → Option Nat) (x1 : Option Nat) (x2 : Option Nat) (x3 : Int32), q18 σ I J D R x1 x2 x3 = some () → WLaw G l xs Lg σ0 (σ, I, J, D, R) 18 [(0, vR (some 3)), (1, vR x1), (2, vR x2), (3, vI x3)] []) (h : fL_law_b3065 q18 xs Lg σ I J D R x1 x2 x3 = some ()) : WLaw G l xs Lg σ0 (σ, I, J, D, R) 3065 [(0, vR (some 3)), (1, vR x1), (2, vR x2), (3, vI x3)] [] := by
  unfold fL_law_b3065 at h
  refine r_aload_n (pc := 3065) dL_law_3065 rfl 1 rfl ?_
  refine r_aload_n (pc := 3066) dL_law_3066 rfl 0 rfl ?_
  refine r_iload_n (pc := 3067) dL_law_3067 rfl 3 rfl ?_
  refine r_iconst (pc := 3068) dL_law_3068 kc_iconst_1 ?_
  refine r_iadd (pc := 3069) dL_law_3069 ?_
  obtain ⟨g179, h⟩ := gd h
  refine r_scld (pc := 3070) dL_law_3070 g179 ?_
  obtain ⟨a180, ha180, h⟩ := ob h
  refine r_ref1 ha180 ?_
  obtain ⟨g181, h⟩ := gd h
  obtain ⟨⟨I182, r183⟩, hc184, h⟩ := ob h
  refine r_callV1 (pc := 3071) (av := [vI (xs (Int32.toNatClampNeg (x3 + (1 : Int32))))]) (S := []) dL_law_3071 (kX11_write hc184) g181 rfl mkL_298 mwX11_write rfl ⟨Nat.le_of_ble_eq_true rfl, Nat.le_of_ble_eq_true rfl⟩ (Nat.le_of_ble_eq_true rfl) ⟨Nat.le_refl _, Nat.le_refl _⟩ (fun b => b) ?_
  refine r_aload_n (pc := 3074) dL_law_3074 rfl 2 rfl ?_
  refine r_aload_n (pc := 3075) dL_law_3075 rfl 0 rfl ?_
  refine r_iload_n (pc := 3076) dL_law_3076 rfl 3 rfl ?_
  refine r_iconst (pc := 3077) dL_law_3077 kc_iconst_1 ?_
  refine r_iadd (pc := 3078) dL_law_3078 ?_
  refine r_scld (pc := 3079) dL_law_3079 g179 ?_
  obtain ⟨a185, ha185, h⟩ := ob h
  refine r_ref1 ha185 ?_
  obtain ⟨g186, h⟩ := gd h
  obtain ⟨⟨I187, r188⟩, hc189, h⟩ := ob h
  refine r_callV1 (pc := 3080) (av := [vI (xs (Int32.toNatClampNeg (x3 + (1 : Int32))))]) (S := [vI r183]) dL_law_3080 (kX12_write hc189) g186 rfl mkL_301 mwX12_write rfl ⟨Nat.le_of_ble_eq_true rfl, Nat.le_of_ble_eq_true rfl⟩ (Nat.le_of_ble_eq_true rfl) ⟨Nat.le_refl _, Nat.le_refl _⟩ (fun b => b) ?_
  refine r_icmp_eq (pc := 3083) (tgt := 3270) dL_law_3083 rfl (fun c => ?_) (fun c => ?_)
  · have h := it h c
    refine r_iinc (pc := 3270) (v := (x3 + (7 : Int32))) (L' := [(3, vI (x3 + (7 : Int32))), (0, vR (some 3)), (1, vR x1), (2, vR x2)]) dL_law_3270 3 rfl (kc_inc_7 _) (by decide) rfl ?_
    refine r_goto (pc := 3273) (tgt := 18) dL_law_3273 rfl ?_
    refine r_sub [1, 2, 3, 0] rfl ?_
    exact hq18 _ _ _ _ _ _ _ _ h
  · have h := ie h c
    refine r_iconst (pc := 3086) dL_law_3086 kc_iconst_0 ?_
    cases h
def fL_law_b3052 (q18 : (Shp) → (Nat → Nat → Int32) → (Nat → Nat → Int64) → (Nat → Nat → UInt64) → (Nat → Nat → Option Nat) → (Option Nat) → (Option Nat) → (Int32) → (Option (Unit))) (xs : Nat → Int32) (Lg : Nat) (σ : Shp) (I : Nat → Nat → Int32) (J : Nat → Nat → Int64) (D : Nat → Nat → UInt64) (R : Nat → Nat → Option Nat) (x1 : Option Nat) (x2 : Option Nat) (x3 : Int32) : Option Unit :=
  (x1 : Option Nat).bind fun a191 =>
  if kdx σ a191 = 12 then
  (fX11_wait1 σ I R a191).bind fun r193 =>
  (x2 : Option Nat).bind fun a195 =>
  if kdx σ a195 = 13 then
  (fX12_wait1 σ I a195).bind fun r197 =>
  if r193 = r197 then
    let v199 := x3 + (7 : Int32)
    q18 σ I J D R x1 x2 v199
  else
    none
  else none
  else none
set_option maxHeartbeats 8000000 in
set_option maxRecDepth 100000 in
theorem wL_law_b3052 {G : Gx} {l : Launch} {xs : Nat → Int32} {Lg : Nat} {σ0 : Shp} {σ : Shp} {I : Nat → Nat → Int32} {J : Nat → Nat → Int64} {D : Nat → Nat → UInt64} {R : Nat → Nat → Option Nat} {q18 : (Shp) → (Nat → Nat → Int32) → (Nat → Nat → Int64) → (Nat → Nat → UInt64) → (Nat → Nat → Option Nat) → (Option Nat) → (Option Nat) → (Int32) → (Option (Unit))} {x1 : Option Nat} {x2 : Option Nat} {x3 : Int32} (hq18 : ∀ (σ : Shp) (I : Nat → Nat → Int32) (J : Nat → Nat → Int64) (D : Nat → Nat → UInt64) (R : Nat → Nat → Option Nat) (x1 : Option Nat) (x2 : Option Nat) (x3 : Int32), q18 σ I J D R x1 x2 x3 = some () → WLaw G l xs Lg σ0 (σ, I, J, D, R) 18 [(0, vR (some 3)), (1, vR x1), (2, vR x2), (3, vI x3)] []) (h : fL_law_b3052 q18 xs Lg σ I J D R x1 x2 x3 = some ()) : WLaw G l xs Lg σ0 (σ, I, J, D, R) 3052 [(0, vR (some 3)), (1, vR x1), (2, vR x2), (3, vI x3)] [] := by
  unfold fL_law_b3052 at h
  refine r_aload_n (pc := 3052) dL_law_3052 rfl 1 rfl ?_
  obtain ⟨a191, ha191, h⟩ := ob h
  refine r_ref0 ha191 ?_
  obtain ⟨g192, h⟩ := gd h
  obtain ⟨r193, hc194, h⟩ := ob h
  refine r_callV1 (pc := 3053) (av := []) (S := []) dL_law_3053 (kX11_wait1 hc194) g192 rfl mkL_294 mwX11_wait1 rfl ⟨Nat.le_of_ble_eq_true rfl, Nat.le_of_ble_eq_true rfl⟩ (Nat.le_of_ble_eq_true rfl) ⟨Nat.le_refl _, Nat.le_refl _⟩ (fun b => b) ?_
  refine r_aload_n (pc := 3056) dL_law_3056 rfl 2 rfl ?_
  obtain ⟨a195, ha195, h⟩ := ob h
  refine r_ref0 ha195 ?_
  obtain ⟨g196, h⟩ := gd h
  obtain ⟨r197, hc198, h⟩ := ob h
  refine r_callV1 (pc := 3057) (av := []) (S := [vI r193]) dL_law_3057 (kX12_wait1 hc198) g196 rfl mkL_297 mwX12_wait1 rfl ⟨Nat.le_of_ble_eq_true rfl, Nat.le_of_ble_eq_true rfl⟩ (Nat.le_of_ble_eq_true rfl) ⟨Nat.le_refl _, Nat.le_refl _⟩ (fun b => b) ?_
  refine r_icmp_eq (pc := 3060) (tgt := 3270) dL_law_3060 rfl (fun c => ?_) (fun c => ?_)
  · have h := it h c
    refine r_iinc (pc := 3270) (v := (x3 + (7 : Int32))) (L' := [(3, vI (x3 + (7 : Int32))), (0, vR (some 3)), (1, vR x1), (2, vR x2)]) dL_law_3270 3 rfl (kc_inc_7 _) (by decide) rfl ?_
    refine r_goto (pc := 3273) (tgt := 18) dL_law_3273 rfl ?_
    refine r_sub [1, 2, 3, 0] rfl ?_
    exact hq18 _ _ _ _ _ _ _ _ h
  · have h := ie h c
    refine r_iconst (pc := 3063) dL_law_3063 kc_iconst_0 ?_
    cases h
def fL_law_b3019 (q18 : (Shp) → (Nat → Nat → Int32) → (Nat → Nat → Int64) → (Nat → Nat → UInt64) → (Nat → Nat → Option Nat) → (Option Nat) → (Option Nat) → (Int32) → (Option (Unit))) (xs : Nat → Int32) (Lg : Nat) (σ : Shp) (I : Nat → Nat → Int32) (J : Nat → Nat → Int64) (D : Nat → Nat → UInt64) (R : Nat → Nat → Option Nat) (x1 : Option Nat) (x2 : Option Nat) (x3 : Int32) : Option Unit :=
  if ¬ ((x3 + (1 : Int32)) < 0 ∨ Lg ≤ Int32.toNatClampNeg (x3 + (1 : Int32))) then
  if ¬ ((x3 + (2 : Int32)) < 0 ∨ Lg ≤ Int32.toNatClampNeg (x3 + (2 : Int32))) then
  (x1 : Option Nat).bind fun a202 =>
  if kdx σ a202 = 12 then
  (fX11_pest σ J R a202 (xs (Int32.toNatClampNeg (x3 + (1 : Int32)))) (xs (Int32.toNatClampNeg (x3 + (2 : Int32))))).bind fun r204 =>
  (x2 : Option Nat).bind fun a206 =>
  if kdx σ a206 = 13 then
  (fX12_pest σ J R a206 (xs (Int32.toNatClampNeg (x3 + (1 : Int32)))) (xs (Int32.toNatClampNeg (x3 + (2 : Int32))))).bind fun r208 =>
  if r204 = r208 then
    let v210 := x3 + (7 : Int32)
    q18 σ I J D R x1 x2 v210
  else
    none
  else none
  else none
  else none
  else none
set_option maxHeartbeats 8000000 in
set_option maxRecDepth 100000 in
theorem wL_law_b3019 {G : Gx} {l : Launch} {xs : Nat → Int32} {Lg : Nat} {σ0 : Shp} {σ : Shp} {I : Nat → Nat → Int32} {J : Nat → Nat → Int64} {D : Nat → Nat → UInt64} {R : Nat → Nat → Option Nat} {q18 : (Shp) → (Nat → Nat → Int32) → (Nat → Nat → Int64) → (Nat → Nat → UInt64) → (Nat → Nat → Option Nat) → (Option Nat) → (Option Nat) → (Int32) → (Option (Unit))} {x1 : Option Nat} {x2 : Option Nat} {x3 : Int32} (hq18 : ∀ (σ : Shp) (I : Nat → Nat → Int32) (J : Nat → Nat → Int64) (D : Nat → Nat → UInt64) (R : Nat → Nat → Option Nat) (x1 : Option Nat) (x2 : Option Nat) (x3 : Int32), q18 σ I J D R x1 x2 x3 = some () → WLaw G l xs Lg σ0 (σ, I, J, D, R) 18 [(0, vR (some 3)), (1, vR x1), (2, vR x2), (3, vI x3)] []) (h : fL_law_b3019 q18 xs Lg σ I J D R x1 x2 x3 = some ()) : WLaw G l xs Lg σ0 (σ, I, J, D, R) 3019 [(0, vR (some 3)), (1, vR x1), (2, vR x2), (3, vI x3)] [] := by
  unfold fL_law_b3019 at h
  refine r_aload_n (pc := 3019) dL_law_3019 rfl 1 rfl ?_
  refine r_aload_n (pc := 3020) dL_law_3020 rfl 0 rfl ?_
  refine r_iload_n (pc := 3021) dL_law_3021 rfl 3 rfl ?_
  refine r_iconst (pc := 3022) dL_law_3022 kc_iconst_1 ?_
  refine r_iadd (pc := 3023) dL_law_3023 ?_
  obtain ⟨g200, h⟩ := gd h
  refine r_scld (pc := 3024) dL_law_3024 g200 ?_
  refine r_aload_n (pc := 3025) dL_law_3025 rfl 0 rfl ?_
  refine r_iload_n (pc := 3026) dL_law_3026 rfl 3 rfl ?_
  refine r_iconst (pc := 3027) dL_law_3027 kc_iconst_2 ?_
  refine r_iadd (pc := 3028) dL_law_3028 ?_
  obtain ⟨g201, h⟩ := gd h
  refine r_scld (pc := 3029) dL_law_3029 g201 ?_
  obtain ⟨a202, ha202, h⟩ := ob h
  refine r_ref2 ha202 ?_
  obtain ⟨g203, h⟩ := gd h
  obtain ⟨r204, hc205, h⟩ := ob h
  refine r_callV1 (pc := 3030) (av := [vI (xs (Int32.toNatClampNeg (x3 + (1 : Int32)))), vI (xs (Int32.toNatClampNeg (x3 + (2 : Int32))))]) (S := []) dL_law_3030 (kX11_pest hc205) g203 rfl mkL_290 mwX11_pest rfl ⟨Nat.le_of_ble_eq_true rfl, Nat.le_of_ble_eq_true rfl⟩ (Nat.le_of_ble_eq_true rfl) ⟨Nat.le_refl _, Nat.le_refl _⟩ (fun b => b) ?_
  refine r_aload_n (pc := 3033) dL_law_3033 rfl 2 rfl ?_
  refine r_aload_n (pc := 3034) dL_law_3034 rfl 0 rfl ?_
  refine r_iload_n (pc := 3035) dL_law_3035 rfl 3 rfl ?_
  refine r_iconst (pc := 3036) dL_law_3036 kc_iconst_1 ?_
  refine r_iadd (pc := 3037) dL_law_3037 ?_
  refine r_scld (pc := 3038) dL_law_3038 g200 ?_
  refine r_aload_n (pc := 3039) dL_law_3039 rfl 0 rfl ?_
  refine r_iload_n (pc := 3040) dL_law_3040 rfl 3 rfl ?_
  refine r_iconst (pc := 3041) dL_law_3041 kc_iconst_2 ?_
  refine r_iadd (pc := 3042) dL_law_3042 ?_
  refine r_scld (pc := 3043) dL_law_3043 g201 ?_
  obtain ⟨a206, ha206, h⟩ := ob h
  refine r_ref2 ha206 ?_
  obtain ⟨g207, h⟩ := gd h
  obtain ⟨r208, hc209, h⟩ := ob h
  refine r_callV1 (pc := 3044) (av := [vI (xs (Int32.toNatClampNeg (x3 + (1 : Int32)))), vI (xs (Int32.toNatClampNeg (x3 + (2 : Int32))))]) (S := [vI r204]) dL_law_3044 (kX12_pest hc209) g207 rfl mkL_293 mwX12_pest rfl ⟨Nat.le_of_ble_eq_true rfl, Nat.le_of_ble_eq_true rfl⟩ (Nat.le_of_ble_eq_true rfl) ⟨Nat.le_refl _, Nat.le_refl _⟩ (fun b => b) ?_
  refine r_icmp_eq (pc := 3047) (tgt := 3270) dL_law_3047 rfl (fun c => ?_) (fun c => ?_)
  · have h := it h c
    refine r_iinc (pc := 3270) (v := (x3 + (7 : Int32))) (L' := [(3, vI (x3 + (7 : Int32))), (0, vR (some 3)), (1, vR x1), (2, vR x2)]) dL_law_3270 3 rfl (kc_inc_7 _) (by decide) rfl ?_
    refine r_goto (pc := 3273) (tgt := 18) dL_law_3273 rfl ?_
    refine r_sub [1, 2, 3, 0] rfl ?_
    exact hq18 _ _ _ _ _ _ _ _ h
  · have h := ie h c
    refine r_iconst (pc := 3050) dL_law_3050 kc_iconst_0 ?_
    cases h
def fL_law_b2996 (q18 : (Shp) → (Nat → Nat → Int32) → (Nat → Nat → Int64) → (Nat → Nat → UInt64) → (Nat → Nat → Option Nat) → (Option Nat) → (Option Nat) → (Int32) → (Option (Unit))) (xs : Nat → Int32) (Lg : Nat) (σ : Shp) (I : Nat → Nat → Int32) (J : Nat → Nat → Int64) (D : Nat → Nat → UInt64) (R : Nat → Nat → Option Nat) (x1 : Option Nat) (x2 : Option Nat) (x3 : Int32) : Option Unit :=
  if ¬ ((x3 + (1 : Int32)) < 0 ∨ Lg ≤ Int32.toNatClampNeg (x3 + (1 : Int32))) then
  (x1 : Option Nat).bind fun a212 =>
  if kdx σ a212 = 12 then
  (fX11_spray σ I J R a212 (xs (Int32.toNatClampNeg (x3 + (1 : Int32))))).bind fun (I214, J215, r216) =>
  (x2 : Option Nat).bind fun a218 =>
  if kdx σ a218 = 13 then
  (fX12_spray σ I214 J215 R a218 (xs (Int32.toNatClampNeg (x3 + (1 : Int32))))).bind fun (I220, J221, r222) =>
  if r216 = r222 then
    let v224 := x3 + (7 : Int32)
    q18 σ I220 J221 D R x1 x2 v224
  else
    none
  else none
  else none
  else none
set_option maxHeartbeats 8000000 in
set_option maxRecDepth 100000 in
theorem wL_law_b2996 {G : Gx} {l : Launch} {xs : Nat → Int32} {Lg : Nat} {σ0 : Shp} {σ : Shp} {I : Nat → Nat → Int32} {J : Nat → Nat → Int64} {D : Nat → Nat → UInt64} {R : Nat → Nat → Option Nat} {q18 : (Shp) → (Nat → Nat → Int32) → (Nat → Nat → Int64) → (Nat → Nat → UInt64) → (Nat → Nat → Option Nat) → (Option Nat) → (Option Nat) → (Int32) → (Option (Unit))} {x1 : Option Nat} {x2 : Option Nat} {x3 : Int32} (hq18 : ∀ (σ : Shp) (I : Nat → Nat → Int32) (J : Nat → Nat → Int64) (D : Nat → Nat → UInt64) (R : Nat → Nat → Option Nat) (x1 : Option Nat) (x2 : Option Nat) (x3 : Int32), q18 σ I J D R x1 x2 x3 = some () → WLaw G l xs Lg σ0 (σ, I, J, D, R) 18 [(0, vR (some 3)), (1, vR x1), (2, vR x2), (3, vI x3)] []) (h : fL_law_b2996 q18 xs Lg σ I J D R x1 x2 x3 = some ()) : WLaw G l xs Lg σ0 (σ, I, J, D, R) 2996 [(0, vR (some 3)), (1, vR x1), (2, vR x2), (3, vI x3)] [] := by
  unfold fL_law_b2996 at h
  refine r_aload_n (pc := 2996) dL_law_2996 rfl 1 rfl ?_
  refine r_aload_n (pc := 2997) dL_law_2997 rfl 0 rfl ?_
  refine r_iload_n (pc := 2998) dL_law_2998 rfl 3 rfl ?_
  refine r_iconst (pc := 2999) dL_law_2999 kc_iconst_1 ?_
  refine r_iadd (pc := 3000) dL_law_3000 ?_
  obtain ⟨g211, h⟩ := gd h
  refine r_scld (pc := 3001) dL_law_3001 g211 ?_
  obtain ⟨a212, ha212, h⟩ := ob h
  refine r_ref1 ha212 ?_
  obtain ⟨g213, h⟩ := gd h
  obtain ⟨⟨I214, J215, r216⟩, hc217, h⟩ := ob h
  refine r_callV1 (pc := 3002) (av := [vI (xs (Int32.toNatClampNeg (x3 + (1 : Int32))))]) (S := []) dL_law_3002 (kX11_spray hc217) g213 rfl mkL_286 mwX11_spray rfl ⟨Nat.le_of_ble_eq_true rfl, Nat.le_of_ble_eq_true rfl⟩ (Nat.le_of_ble_eq_true rfl) ⟨Nat.le_refl _, Nat.le_refl _⟩ (fun b => b) ?_
  refine r_aload_n (pc := 3005) dL_law_3005 rfl 2 rfl ?_
  refine r_aload_n (pc := 3006) dL_law_3006 rfl 0 rfl ?_
  refine r_iload_n (pc := 3007) dL_law_3007 rfl 3 rfl ?_
  refine r_iconst (pc := 3008) dL_law_3008 kc_iconst_1 ?_
  refine r_iadd (pc := 3009) dL_law_3009 ?_
  refine r_scld (pc := 3010) dL_law_3010 g211 ?_
  obtain ⟨a218, ha218, h⟩ := ob h
  refine r_ref1 ha218 ?_
  obtain ⟨g219, h⟩ := gd h
  obtain ⟨⟨I220, J221, r222⟩, hc223, h⟩ := ob h
  refine r_callV1 (pc := 3011) (av := [vI (xs (Int32.toNatClampNeg (x3 + (1 : Int32))))]) (S := [vI r216]) dL_law_3011 (kX12_spray hc223) g219 rfl mkL_289 mwX12_spray rfl ⟨Nat.le_of_ble_eq_true rfl, Nat.le_of_ble_eq_true rfl⟩ (Nat.le_of_ble_eq_true rfl) ⟨Nat.le_refl _, Nat.le_refl _⟩ (fun b => b) ?_
  refine r_icmp_eq (pc := 3014) (tgt := 3270) dL_law_3014 rfl (fun c => ?_) (fun c => ?_)
  · have h := it h c
    refine r_iinc (pc := 3270) (v := (x3 + (7 : Int32))) (L' := [(3, vI (x3 + (7 : Int32))), (0, vR (some 3)), (1, vR x1), (2, vR x2)]) dL_law_3270 3 rfl (kc_inc_7 _) (by decide) rfl ?_
    refine r_goto (pc := 3273) (tgt := 18) dL_law_3273 rfl ?_
    refine r_sub [1, 2, 3, 0] rfl ?_
    exact hq18 _ _ _ _ _ _ _ _ h
  · have h := ie h c
    refine r_iconst (pc := 3017) dL_law_3017 kc_iconst_0 ?_
    cases h
def fL_law_b2973 (q18 : (Shp) → (Nat → Nat → Int32) → (Nat → Nat → Int64) → (Nat → Nat → UInt64) → (Nat → Nat → Option Nat) → (Option Nat) → (Option Nat) → (Int32) → (Option (Unit))) (xs : Nat → Int32) (Lg : Nat) (σ : Shp) (I : Nat → Nat → Int32) (J : Nat → Nat → Int64) (D : Nat → Nat → UInt64) (R : Nat → Nat → Option Nat) (x1 : Option Nat) (x2 : Option Nat) (x3 : Int32) : Option Unit :=
  if ¬ ((x3 + (1 : Int32)) < 0 ∨ Lg ≤ Int32.toNatClampNeg (x3 + (1 : Int32))) then
  (x1 : Option Nat).bind fun a226 =>
  if kdx σ a226 = 12 then
  (fX11_day σ I J R a226 (xs (Int32.toNatClampNeg (x3 + (1 : Int32))))).bind fun (I228, J229, r230) =>
  (x2 : Option Nat).bind fun a232 =>
  if kdx σ a232 = 13 then
  (fX12_day σ I228 J229 R a232 (xs (Int32.toNatClampNeg (x3 + (1 : Int32))))).bind fun (I234, J235, r236) =>
  if r230 = r236 then
    let v238 := x3 + (7 : Int32)
    q18 σ I234 J235 D R x1 x2 v238
  else
    none
  else none
  else none
  else none
set_option maxHeartbeats 8000000 in
set_option maxRecDepth 100000 in
theorem wL_law_b2973 {G : Gx} {l : Launch} {xs : Nat → Int32} {Lg : Nat} {σ0 : Shp} {σ : Shp} {I : Nat → Nat → Int32} {J : Nat → Nat → Int64} {D : Nat → Nat → UInt64} {R : Nat → Nat → Option Nat} {q18 : (Shp) → (Nat → Nat → Int32) → (Nat → Nat → Int64) → (Nat → Nat → UInt64) → (Nat → Nat → Option Nat) → (Option Nat) → (Option Nat) → (Int32) → (Option (Unit))} {x1 : Option Nat} {x2 : Option Nat} {x3 : Int32} (hq18 : ∀ (σ : Shp) (I : Nat → Nat → Int32) (J : Nat → Nat → Int64) (D : Nat → Nat → UInt64) (R : Nat → Nat → Option Nat) (x1 : Option Nat) (x2 : Option Nat) (x3 : Int32), q18 σ I J D R x1 x2 x3 = some () → WLaw G l xs Lg σ0 (σ, I, J, D, R) 18 [(0, vR (some 3)), (1, vR x1), (2, vR x2), (3, vI x3)] []) (h : fL_law_b2973 q18 xs Lg σ I J D R x1 x2 x3 = some ()) : WLaw G l xs Lg σ0 (σ, I, J, D, R) 2973 [(0, vR (some 3)), (1, vR x1), (2, vR x2), (3, vI x3)] [] := by
  unfold fL_law_b2973 at h
  refine r_aload_n (pc := 2973) dL_law_2973 rfl 1 rfl ?_
  refine r_aload_n (pc := 2974) dL_law_2974 rfl 0 rfl ?_
  refine r_iload_n (pc := 2975) dL_law_2975 rfl 3 rfl ?_
  refine r_iconst (pc := 2976) dL_law_2976 kc_iconst_1 ?_
  refine r_iadd (pc := 2977) dL_law_2977 ?_
  obtain ⟨g225, h⟩ := gd h
  refine r_scld (pc := 2978) dL_law_2978 g225 ?_
  obtain ⟨a226, ha226, h⟩ := ob h
  refine r_ref1 ha226 ?_
  obtain ⟨g227, h⟩ := gd h
  obtain ⟨⟨I228, J229, r230⟩, hc231, h⟩ := ob h
  refine r_callV1 (pc := 2979) (av := [vI (xs (Int32.toNatClampNeg (x3 + (1 : Int32))))]) (S := []) dL_law_2979 (kX11_day hc231) g227 rfl mkL_282 mwX11_day rfl ⟨Nat.le_of_ble_eq_true rfl, Nat.le_of_ble_eq_true rfl⟩ (Nat.le_of_ble_eq_true rfl) ⟨Nat.le_refl _, Nat.le_refl _⟩ (fun b => b) ?_
  refine r_aload_n (pc := 2982) dL_law_2982 rfl 2 rfl ?_
  refine r_aload_n (pc := 2983) dL_law_2983 rfl 0 rfl ?_
  refine r_iload_n (pc := 2984) dL_law_2984 rfl 3 rfl ?_
  refine r_iconst (pc := 2985) dL_law_2985 kc_iconst_1 ?_
  refine r_iadd (pc := 2986) dL_law_2986 ?_
  refine r_scld (pc := 2987) dL_law_2987 g225 ?_
  obtain ⟨a232, ha232, h⟩ := ob h
  refine r_ref1 ha232 ?_
  obtain ⟨g233, h⟩ := gd h
  obtain ⟨⟨I234, J235, r236⟩, hc237, h⟩ := ob h
  refine r_callV1 (pc := 2988) (av := [vI (xs (Int32.toNatClampNeg (x3 + (1 : Int32))))]) (S := [vI r230]) dL_law_2988 (kX12_day hc237) g233 rfl mkL_285 mwX12_day rfl ⟨Nat.le_of_ble_eq_true rfl, Nat.le_of_ble_eq_true rfl⟩ (Nat.le_of_ble_eq_true rfl) ⟨Nat.le_refl _, Nat.le_refl _⟩ (fun b => b) ?_
  refine r_icmp_eq (pc := 2991) (tgt := 3270) dL_law_2991 rfl (fun c => ?_) (fun c => ?_)
  · have h := it h c
    refine r_iinc (pc := 3270) (v := (x3 + (7 : Int32))) (L' := [(3, vI (x3 + (7 : Int32))), (0, vR (some 3)), (1, vR x1), (2, vR x2)]) dL_law_3270 3 rfl (kc_inc_7 _) (by decide) rfl ?_
    refine r_goto (pc := 3273) (tgt := 18) dL_law_3273 rfl ?_
    refine r_sub [1, 2, 3, 0] rfl ?_
    exact hq18 _ _ _ _ _ _ _ _ h
  · have h := ie h c
    refine r_iconst (pc := 2994) dL_law_2994 kc_iconst_0 ?_
    cases h
def fL_law_b2910 (q18 : (Shp) → (Nat → Nat → Int32) → (Nat → Nat → Int64) → (Nat → Nat → UInt64) → (Nat → Nat → Option Nat) → (Option Nat) → (Option Nat) → (Int32) → (Option (Unit))) (xs : Nat → Int32) (Lg : Nat) (σ : Shp) (I : Nat → Nat → Int32) (J : Nat → Nat → Int64) (D : Nat → Nat → UInt64) (R : Nat → Nat → Option Nat) (x1 : Option Nat) (x2 : Option Nat) (x3 : Int32) : Option Unit :=
  if ¬ ((x3 + (1 : Int32)) < 0 ∨ Lg ≤ Int32.toNatClampNeg (x3 + (1 : Int32))) then
  if ¬ ((x3 + (2 : Int32)) < 0 ∨ Lg ≤ Int32.toNatClampNeg (x3 + (2 : Int32))) then
  if ¬ ((x3 + (3 : Int32)) < 0 ∨ Lg ≤ Int32.toNatClampNeg (x3 + (3 : Int32))) then
  if ¬ ((x3 + (4 : Int32)) < 0 ∨ Lg ≤ Int32.toNatClampNeg (x3 + (4 : Int32))) then
  if ¬ ((x3 + (5 : Int32)) < 0 ∨ Lg ≤ Int32.toNatClampNeg (x3 + (5 : Int32))) then
  (x1 : Option Nat).bind fun a244 =>
  if kdx σ a244 = 12 then
  (fX11_parts σ I R a244 (xs (Int32.toNatClampNeg (x3 + (1 : Int32)))) (xs (Int32.toNatClampNeg (x3 + (2 : Int32)))) (xs (Int32.toNatClampNeg (x3 + (3 : Int32)))) (xs (Int32.toNatClampNeg (x3 + (4 : Int32)))) (xs (Int32.toNatClampNeg (x3 + (5 : Int32))))).bind fun (I246, r247) =>
  (x2 : Option Nat).bind fun a249 =>
  if kdx σ a249 = 13 then
  (fX12_parts σ I246 R a249 (xs (Int32.toNatClampNeg (x3 + (1 : Int32)))) (xs (Int32.toNatClampNeg (x3 + (2 : Int32)))) (xs (Int32.toNatClampNeg (x3 + (3 : Int32)))) (xs (Int32.toNatClampNeg (x3 + (4 : Int32)))) (xs (Int32.toNatClampNeg (x3 + (5 : Int32))))).bind fun (I251, r252) =>
  if r247 = r252 then
    let v254 := x3 + (7 : Int32)
    q18 σ I251 J D R x1 x2 v254
  else
    none
  else none
  else none
  else none
  else none
  else none
  else none
  else none
set_option maxHeartbeats 8000000 in
set_option maxRecDepth 100000 in
theorem wL_law_b2910 {G : Gx} {l : Launch} {xs : Nat → Int32} {Lg : Nat} {σ0 : Shp} {σ : Shp} {I : Nat → Nat → Int32} {J : Nat → Nat → Int64} {D : Nat → Nat → UInt64} {R : Nat → Nat → Option Nat} {q18 : (Shp) → (Nat → Nat → Int32) → (Nat → Nat → Int64) → (Nat → Nat → UInt64) → (Nat → Nat → Option Nat) → (Option Nat) → (Option Nat) → (Int32) → (Option (Unit))} {x1 : Option Nat} {x2 : Option Nat} {x3 : Int32} (hq18 : ∀ (σ : Shp) (I : Nat → Nat → Int32) (J : Nat → Nat → Int64) (D : Nat → Nat → UInt64) (R : Nat → Nat → Option Nat) (x1 : Option Nat) (x2 : Option Nat) (x3 : Int32), q18 σ I J D R x1 x2 x3 = some () → WLaw G l xs Lg σ0 (σ, I, J, D, R) 18 [(0, vR (some 3)), (1, vR x1), (2, vR x2), (3, vI x3)] []) (h : fL_law_b2910 q18 xs Lg σ I J D R x1 x2 x3 = some ()) : WLaw G l xs Lg σ0 (σ, I, J, D, R) 2910 [(0, vR (some 3)), (1, vR x1), (2, vR x2), (3, vI x3)] [] := by
  unfold fL_law_b2910 at h
  refine r_aload_n (pc := 2910) dL_law_2910 rfl 1 rfl ?_
  refine r_aload_n (pc := 2911) dL_law_2911 rfl 0 rfl ?_
  refine r_iload_n (pc := 2912) dL_law_2912 rfl 3 rfl ?_
  refine r_iconst (pc := 2913) dL_law_2913 kc_iconst_1 ?_
  refine r_iadd (pc := 2914) dL_law_2914 ?_
  obtain ⟨g239, h⟩ := gd h
  refine r_scld (pc := 2915) dL_law_2915 g239 ?_
  refine r_aload_n (pc := 2916) dL_law_2916 rfl 0 rfl ?_
  refine r_iload_n (pc := 2917) dL_law_2917 rfl 3 rfl ?_
  refine r_iconst (pc := 2918) dL_law_2918 kc_iconst_2 ?_
  refine r_iadd (pc := 2919) dL_law_2919 ?_
  obtain ⟨g240, h⟩ := gd h
  refine r_scld (pc := 2920) dL_law_2920 g240 ?_
  refine r_aload_n (pc := 2921) dL_law_2921 rfl 0 rfl ?_
  refine r_iload_n (pc := 2922) dL_law_2922 rfl 3 rfl ?_
  refine r_iconst (pc := 2923) dL_law_2923 kc_iconst_3 ?_
  refine r_iadd (pc := 2924) dL_law_2924 ?_
  obtain ⟨g241, h⟩ := gd h
  refine r_scld (pc := 2925) dL_law_2925 g241 ?_
  refine r_aload_n (pc := 2926) dL_law_2926 rfl 0 rfl ?_
  refine r_iload_n (pc := 2927) dL_law_2927 rfl 3 rfl ?_
  refine r_iconst (pc := 2928) dL_law_2928 kc_iconst_4 ?_
  refine r_iadd (pc := 2929) dL_law_2929 ?_
  obtain ⟨g242, h⟩ := gd h
  refine r_scld (pc := 2930) dL_law_2930 g242 ?_
  refine r_aload_n (pc := 2931) dL_law_2931 rfl 0 rfl ?_
  refine r_iload_n (pc := 2932) dL_law_2932 rfl 3 rfl ?_
  refine r_iconst (pc := 2933) dL_law_2933 kc_iconst_5 ?_
  refine r_iadd (pc := 2934) dL_law_2934 ?_
  obtain ⟨g243, h⟩ := gd h
  refine r_scld (pc := 2935) dL_law_2935 g243 ?_
  obtain ⟨a244, ha244, h⟩ := ob h
  refine r_ref5 ha244 ?_
  obtain ⟨g245, h⟩ := gd h
  obtain ⟨⟨I246, r247⟩, hc248, h⟩ := ob h
  refine r_callV1 (pc := 2936) (av := [vI (xs (Int32.toNatClampNeg (x3 + (1 : Int32)))), vI (xs (Int32.toNatClampNeg (x3 + (2 : Int32)))), vI (xs (Int32.toNatClampNeg (x3 + (3 : Int32)))), vI (xs (Int32.toNatClampNeg (x3 + (4 : Int32)))), vI (xs (Int32.toNatClampNeg (x3 + (5 : Int32))))]) (S := []) dL_law_2936 (kX11_parts hc248) g245 rfl mkL_278 mwX11_parts rfl ⟨Nat.le_of_ble_eq_true rfl, Nat.le_of_ble_eq_true rfl⟩ (Nat.le_of_ble_eq_true rfl) ⟨Nat.le_refl _, Nat.le_refl _⟩ (fun b => b) ?_
  refine r_aload_n (pc := 2939) dL_law_2939 rfl 2 rfl ?_
  refine r_aload_n (pc := 2940) dL_law_2940 rfl 0 rfl ?_
  refine r_iload_n (pc := 2941) dL_law_2941 rfl 3 rfl ?_
  refine r_iconst (pc := 2942) dL_law_2942 kc_iconst_1 ?_
  refine r_iadd (pc := 2943) dL_law_2943 ?_
  refine r_scld (pc := 2944) dL_law_2944 g239 ?_
  refine r_aload_n (pc := 2945) dL_law_2945 rfl 0 rfl ?_
  refine r_iload_n (pc := 2946) dL_law_2946 rfl 3 rfl ?_
  refine r_iconst (pc := 2947) dL_law_2947 kc_iconst_2 ?_
  refine r_iadd (pc := 2948) dL_law_2948 ?_
  refine r_scld (pc := 2949) dL_law_2949 g240 ?_
  refine r_aload_n (pc := 2950) dL_law_2950 rfl 0 rfl ?_
  refine r_iload_n (pc := 2951) dL_law_2951 rfl 3 rfl ?_
  refine r_iconst (pc := 2952) dL_law_2952 kc_iconst_3 ?_
  refine r_iadd (pc := 2953) dL_law_2953 ?_
  refine r_scld (pc := 2954) dL_law_2954 g241 ?_
  refine r_aload_n (pc := 2955) dL_law_2955 rfl 0 rfl ?_
  refine r_iload_n (pc := 2956) dL_law_2956 rfl 3 rfl ?_
  refine r_iconst (pc := 2957) dL_law_2957 kc_iconst_4 ?_
  refine r_iadd (pc := 2958) dL_law_2958 ?_
  refine r_scld (pc := 2959) dL_law_2959 g242 ?_
  refine r_aload_n (pc := 2960) dL_law_2960 rfl 0 rfl ?_
  refine r_iload_n (pc := 2961) dL_law_2961 rfl 3 rfl ?_
  refine r_iconst (pc := 2962) dL_law_2962 kc_iconst_5 ?_
  refine r_iadd (pc := 2963) dL_law_2963 ?_
  refine r_scld (pc := 2964) dL_law_2964 g243 ?_
  obtain ⟨a249, ha249, h⟩ := ob h
  refine r_ref5 ha249 ?_
  obtain ⟨g250, h⟩ := gd h
  obtain ⟨⟨I251, r252⟩, hc253, h⟩ := ob h
  refine r_callV1 (pc := 2965) (av := [vI (xs (Int32.toNatClampNeg (x3 + (1 : Int32)))), vI (xs (Int32.toNatClampNeg (x3 + (2 : Int32)))), vI (xs (Int32.toNatClampNeg (x3 + (3 : Int32)))), vI (xs (Int32.toNatClampNeg (x3 + (4 : Int32)))), vI (xs (Int32.toNatClampNeg (x3 + (5 : Int32))))]) (S := [vI r247]) dL_law_2965 (kX12_parts hc253) g250 rfl mkL_281 mwX12_parts rfl ⟨Nat.le_of_ble_eq_true rfl, Nat.le_of_ble_eq_true rfl⟩ (Nat.le_of_ble_eq_true rfl) ⟨Nat.le_refl _, Nat.le_refl _⟩ (fun b => b) ?_
  refine r_icmp_eq (pc := 2968) (tgt := 3270) dL_law_2968 rfl (fun c => ?_) (fun c => ?_)
  · have h := it h c
    refine r_iinc (pc := 3270) (v := (x3 + (7 : Int32))) (L' := [(3, vI (x3 + (7 : Int32))), (0, vR (some 3)), (1, vR x1), (2, vR x2)]) dL_law_3270 3 rfl (kc_inc_7 _) (by decide) rfl ?_
    refine r_goto (pc := 3273) (tgt := 18) dL_law_3273 rfl ?_
    refine r_sub [1, 2, 3, 0] rfl ?_
    exact hq18 _ _ _ _ _ _ _ _ h
  · have h := ie h c
    refine r_iconst (pc := 2971) dL_law_2971 kc_iconst_0 ?_
    cases h
def fL_law_b2867 (q18 : (Shp) → (Nat → Nat → Int32) → (Nat → Nat → Int64) → (Nat → Nat → UInt64) → (Nat → Nat → Option Nat) → (Option Nat) → (Option Nat) → (Int32) → (Option (Unit))) (xs : Nat → Int32) (Lg : Nat) (σ : Shp) (I : Nat → Nat → Int32) (J : Nat → Nat → Int64) (D : Nat → Nat → UInt64) (R : Nat → Nat → Option Nat) (x1 : Option Nat) (x2 : Option Nat) (x3 : Int32) : Option Unit :=
  if ¬ ((x3 + (1 : Int32)) < 0 ∨ Lg ≤ Int32.toNatClampNeg (x3 + (1 : Int32))) then
  if ¬ ((x3 + (2 : Int32)) < 0 ∨ Lg ≤ Int32.toNatClampNeg (x3 + (2 : Int32))) then
  if ¬ ((x3 + (3 : Int32)) < 0 ∨ Lg ≤ Int32.toNatClampNeg (x3 + (3 : Int32))) then
  (x1 : Option Nat).bind fun a258 =>
  if kdx σ a258 = 12 then
  (fX11_count σ J R a258 (xs (Int32.toNatClampNeg (x3 + (1 : Int32)))) (xs (Int32.toNatClampNeg (x3 + (2 : Int32)))) (xs (Int32.toNatClampNeg (x3 + (3 : Int32))))).bind fun (J260, r261) =>
  (x2 : Option Nat).bind fun a263 =>
  if kdx σ a263 = 13 then
  (fX12_count σ J260 R a263 (xs (Int32.toNatClampNeg (x3 + (1 : Int32)))) (xs (Int32.toNatClampNeg (x3 + (2 : Int32)))) (xs (Int32.toNatClampNeg (x3 + (3 : Int32))))).bind fun (J265, r266) =>
  if r261 = r266 then
    let v268 := x3 + (7 : Int32)
    q18 σ I J265 D R x1 x2 v268
  else
    none
  else none
  else none
  else none
  else none
  else none
set_option maxHeartbeats 8000000 in
set_option maxRecDepth 100000 in
theorem wL_law_b2867 {G : Gx} {l : Launch} {xs : Nat → Int32} {Lg : Nat} {σ0 : Shp} {σ : Shp} {I : Nat → Nat → Int32} {J : Nat → Nat → Int64} {D : Nat → Nat → UInt64} {R : Nat → Nat → Option Nat} {q18 : (Shp) → (Nat → Nat → Int32) → (Nat → Nat → Int64) → (Nat → Nat → UInt64) → (Nat → Nat → Option Nat) → (Option Nat) → (Option Nat) → (Int32) → (Option (Unit))} {x1 : Option Nat} {x2 : Option Nat} {x3 : Int32} (hq18 : ∀ (σ : Shp) (I : Nat → Nat → Int32) (J : Nat → Nat → Int64) (D : Nat → Nat → UInt64) (R : Nat → Nat → Option Nat) (x1 : Option Nat) (x2 : Option Nat) (x3 : Int32), q18 σ I J D R x1 x2 x3 = some () → WLaw G l xs Lg σ0 (σ, I, J, D, R) 18 [(0, vR (some 3)), (1, vR x1), (2, vR x2), (3, vI x3)] []) (h : fL_law_b2867 q18 xs Lg σ I J D R x1 x2 x3 = some ()) : WLaw G l xs Lg σ0 (σ, I, J, D, R) 2867 [(0, vR (some 3)), (1, vR x1), (2, vR x2), (3, vI x3)] [] := by
  unfold fL_law_b2867 at h
  refine r_aload_n (pc := 2867) dL_law_2867 rfl 1 rfl ?_
  refine r_aload_n (pc := 2868) dL_law_2868 rfl 0 rfl ?_
  refine r_iload_n (pc := 2869) dL_law_2869 rfl 3 rfl ?_
  refine r_iconst (pc := 2870) dL_law_2870 kc_iconst_1 ?_
  refine r_iadd (pc := 2871) dL_law_2871 ?_
  obtain ⟨g255, h⟩ := gd h
  refine r_scld (pc := 2872) dL_law_2872 g255 ?_
  refine r_aload_n (pc := 2873) dL_law_2873 rfl 0 rfl ?_
  refine r_iload_n (pc := 2874) dL_law_2874 rfl 3 rfl ?_
  refine r_iconst (pc := 2875) dL_law_2875 kc_iconst_2 ?_
  refine r_iadd (pc := 2876) dL_law_2876 ?_
  obtain ⟨g256, h⟩ := gd h
  refine r_scld (pc := 2877) dL_law_2877 g256 ?_
  refine r_aload_n (pc := 2878) dL_law_2878 rfl 0 rfl ?_
  refine r_iload_n (pc := 2879) dL_law_2879 rfl 3 rfl ?_
  refine r_iconst (pc := 2880) dL_law_2880 kc_iconst_3 ?_
  refine r_iadd (pc := 2881) dL_law_2881 ?_
  obtain ⟨g257, h⟩ := gd h
  refine r_scld (pc := 2882) dL_law_2882 g257 ?_
  obtain ⟨a258, ha258, h⟩ := ob h
  refine r_ref3 ha258 ?_
  obtain ⟨g259, h⟩ := gd h
  obtain ⟨⟨J260, r261⟩, hc262, h⟩ := ob h
  refine r_callV1 (pc := 2883) (av := [vI (xs (Int32.toNatClampNeg (x3 + (1 : Int32)))), vI (xs (Int32.toNatClampNeg (x3 + (2 : Int32)))), vI (xs (Int32.toNatClampNeg (x3 + (3 : Int32))))]) (S := []) dL_law_2883 (kX11_count hc262) g259 rfl mkL_274 mwX11_count rfl ⟨Nat.le_of_ble_eq_true rfl, Nat.le_of_ble_eq_true rfl⟩ (Nat.le_of_ble_eq_true rfl) ⟨Nat.le_refl _, Nat.le_refl _⟩ (fun b => b) ?_
  refine r_aload_n (pc := 2886) dL_law_2886 rfl 2 rfl ?_
  refine r_aload_n (pc := 2887) dL_law_2887 rfl 0 rfl ?_
  refine r_iload_n (pc := 2888) dL_law_2888 rfl 3 rfl ?_
  refine r_iconst (pc := 2889) dL_law_2889 kc_iconst_1 ?_
  refine r_iadd (pc := 2890) dL_law_2890 ?_
  refine r_scld (pc := 2891) dL_law_2891 g255 ?_
  refine r_aload_n (pc := 2892) dL_law_2892 rfl 0 rfl ?_
  refine r_iload_n (pc := 2893) dL_law_2893 rfl 3 rfl ?_
  refine r_iconst (pc := 2894) dL_law_2894 kc_iconst_2 ?_
  refine r_iadd (pc := 2895) dL_law_2895 ?_
  refine r_scld (pc := 2896) dL_law_2896 g256 ?_
  refine r_aload_n (pc := 2897) dL_law_2897 rfl 0 rfl ?_
  refine r_iload_n (pc := 2898) dL_law_2898 rfl 3 rfl ?_
  refine r_iconst (pc := 2899) dL_law_2899 kc_iconst_3 ?_
  refine r_iadd (pc := 2900) dL_law_2900 ?_
  refine r_scld (pc := 2901) dL_law_2901 g257 ?_
  obtain ⟨a263, ha263, h⟩ := ob h
  refine r_ref3 ha263 ?_
  obtain ⟨g264, h⟩ := gd h
  obtain ⟨⟨J265, r266⟩, hc267, h⟩ := ob h
  refine r_callV1 (pc := 2902) (av := [vI (xs (Int32.toNatClampNeg (x3 + (1 : Int32)))), vI (xs (Int32.toNatClampNeg (x3 + (2 : Int32)))), vI (xs (Int32.toNatClampNeg (x3 + (3 : Int32))))]) (S := [vI r261]) dL_law_2902 (kX12_count hc267) g264 rfl mkL_277 mwX12_count rfl ⟨Nat.le_of_ble_eq_true rfl, Nat.le_of_ble_eq_true rfl⟩ (Nat.le_of_ble_eq_true rfl) ⟨Nat.le_refl _, Nat.le_refl _⟩ (fun b => b) ?_
  refine r_icmp_eq (pc := 2905) (tgt := 3270) dL_law_2905 rfl (fun c => ?_) (fun c => ?_)
  · have h := it h c
    refine r_iinc (pc := 3270) (v := (x3 + (7 : Int32))) (L' := [(3, vI (x3 + (7 : Int32))), (0, vR (some 3)), (1, vR x1), (2, vR x2)]) dL_law_3270 3 rfl (kc_inc_7 _) (by decide) rfl ?_
    refine r_goto (pc := 3273) (tgt := 18) dL_law_3273 rfl ?_
    refine r_sub [1, 2, 3, 0] rfl ?_
    exact hq18 _ _ _ _ _ _ _ _ h
  · have h := ie h c
    refine r_iconst (pc := 2908) dL_law_2908 kc_iconst_0 ?_
    cases h
def fL_law_b2833 (q18 : (Shp) → (Nat → Nat → Int32) → (Nat → Nat → Int64) → (Nat → Nat → UInt64) → (Nat → Nat → Option Nat) → (Option Nat) → (Option Nat) → (Int32) → (Option (Unit))) (xs : Nat → Int32) (Lg : Nat) (σ : Shp) (I : Nat → Nat → Int32) (J : Nat → Nat → Int64) (D : Nat → Nat → UInt64) (R : Nat → Nat → Option Nat) (x1 : Option Nat) (x2 : Option Nat) (x3 : Int32) : Option Unit :=
  if ¬ ((x3 + (1 : Int32)) < 0 ∨ Lg ≤ Int32.toNatClampNeg (x3 + (1 : Int32))) then
  if ¬ ((x3 + (2 : Int32)) < 0 ∨ Lg ≤ Int32.toNatClampNeg (x3 + (2 : Int32))) then
  (x1 : Option Nat).bind fun a271 =>
  if kdx σ a271 = 12 then
  (fX11_worked σ I J R a271 (xs (Int32.toNatClampNeg (x3 + (1 : Int32)))) (xs (Int32.toNatClampNeg (x3 + (2 : Int32))))).bind fun r273 =>
  (x2 : Option Nat).bind fun a275 =>
  if kdx σ a275 = 13 then
  (fX12_worked σ I J R a275 (xs (Int32.toNatClampNeg (x3 + (1 : Int32)))) (xs (Int32.toNatClampNeg (x3 + (2 : Int32))))).bind fun r277 =>
  if r273 = r277 then
    let v279 := x3 + (7 : Int32)
    q18 σ I J D R x1 x2 v279
  else
    none
  else none
  else none
  else none
  else none
set_option maxHeartbeats 8000000 in
set_option maxRecDepth 100000 in
theorem wL_law_b2833 {G : Gx} {l : Launch} {xs : Nat → Int32} {Lg : Nat} {σ0 : Shp} {σ : Shp} {I : Nat → Nat → Int32} {J : Nat → Nat → Int64} {D : Nat → Nat → UInt64} {R : Nat → Nat → Option Nat} {q18 : (Shp) → (Nat → Nat → Int32) → (Nat → Nat → Int64) → (Nat → Nat → UInt64) → (Nat → Nat → Option Nat) → (Option Nat) → (Option Nat) → (Int32) → (Option (Unit))} {x1 : Option Nat} {x2 : Option Nat} {x3 : Int32} (hq18 : ∀ (σ : Shp) (I : Nat → Nat → Int32) (J : Nat → Nat → Int64) (D : Nat → Nat → UInt64) (R : Nat → Nat → Option Nat) (x1 : Option Nat) (x2 : Option Nat) (x3 : Int32), q18 σ I J D R x1 x2 x3 = some () → WLaw G l xs Lg σ0 (σ, I, J, D, R) 18 [(0, vR (some 3)), (1, vR x1), (2, vR x2), (3, vI x3)] []) (h : fL_law_b2833 q18 xs Lg σ I J D R x1 x2 x3 = some ()) : WLaw G l xs Lg σ0 (σ, I, J, D, R) 2833 [(0, vR (some 3)), (1, vR x1), (2, vR x2), (3, vI x3)] [] := by
  unfold fL_law_b2833 at h
  refine r_aload_n (pc := 2833) dL_law_2833 rfl 1 rfl ?_
  refine r_aload_n (pc := 2834) dL_law_2834 rfl 0 rfl ?_
  refine r_iload_n (pc := 2835) dL_law_2835 rfl 3 rfl ?_
  refine r_iconst (pc := 2836) dL_law_2836 kc_iconst_1 ?_
  refine r_iadd (pc := 2837) dL_law_2837 ?_
  obtain ⟨g269, h⟩ := gd h
  refine r_scld (pc := 2838) dL_law_2838 g269 ?_
  refine r_aload_n (pc := 2839) dL_law_2839 rfl 0 rfl ?_
  refine r_iload_n (pc := 2840) dL_law_2840 rfl 3 rfl ?_
  refine r_iconst (pc := 2841) dL_law_2841 kc_iconst_2 ?_
  refine r_iadd (pc := 2842) dL_law_2842 ?_
  obtain ⟨g270, h⟩ := gd h
  refine r_scld (pc := 2843) dL_law_2843 g270 ?_
  obtain ⟨a271, ha271, h⟩ := ob h
  refine r_ref2 ha271 ?_
  obtain ⟨g272, h⟩ := gd h
  obtain ⟨r273, hc274, h⟩ := ob h
  refine r_callV1 (pc := 2844) (av := [vI (xs (Int32.toNatClampNeg (x3 + (1 : Int32)))), vI (xs (Int32.toNatClampNeg (x3 + (2 : Int32))))]) (S := []) dL_law_2844 (kX11_worked hc274) g272 rfl mkL_270 mwX11_worked rfl ⟨Nat.le_of_ble_eq_true rfl, Nat.le_of_ble_eq_true rfl⟩ (Nat.le_of_ble_eq_true rfl) ⟨Nat.le_refl _, Nat.le_refl _⟩ (fun b => b) ?_
  refine r_aload_n (pc := 2847) dL_law_2847 rfl 2 rfl ?_
  refine r_aload_n (pc := 2848) dL_law_2848 rfl 0 rfl ?_
  refine r_iload_n (pc := 2849) dL_law_2849 rfl 3 rfl ?_
  refine r_iconst (pc := 2850) dL_law_2850 kc_iconst_1 ?_
  refine r_iadd (pc := 2851) dL_law_2851 ?_
  refine r_scld (pc := 2852) dL_law_2852 g269 ?_
  refine r_aload_n (pc := 2853) dL_law_2853 rfl 0 rfl ?_
  refine r_iload_n (pc := 2854) dL_law_2854 rfl 3 rfl ?_
  refine r_iconst (pc := 2855) dL_law_2855 kc_iconst_2 ?_
  refine r_iadd (pc := 2856) dL_law_2856 ?_
  refine r_scld (pc := 2857) dL_law_2857 g270 ?_
  obtain ⟨a275, ha275, h⟩ := ob h
  refine r_ref2 ha275 ?_
  obtain ⟨g276, h⟩ := gd h
  obtain ⟨r277, hc278, h⟩ := ob h
  refine r_callV1 (pc := 2858) (av := [vI (xs (Int32.toNatClampNeg (x3 + (1 : Int32)))), vI (xs (Int32.toNatClampNeg (x3 + (2 : Int32))))]) (S := [vL r273]) dL_law_2858 (kX12_worked hc278) g276 rfl mkL_273 mwX12_worked rfl ⟨Nat.le_of_ble_eq_true rfl, Nat.le_of_ble_eq_true rfl⟩ (Nat.le_of_ble_eq_true rfl) ⟨Nat.le_refl _, Nat.le_refl _⟩ (fun b => b) ?_
  refine r_lcmp (pc := 2861) dL_law_2861 ?_
  refine r_if_eq (pc := 2862) (tgt := 3270) dL_law_2862 rfl (fun c => ?_) (fun c => ?_)
  · have h := it h (lgc_eq.mp c)
    refine r_iinc (pc := 3270) (v := (x3 + (7 : Int32))) (L' := [(3, vI (x3 + (7 : Int32))), (0, vR (some 3)), (1, vR x1), (2, vR x2)]) dL_law_3270 3 rfl (kc_inc_7 _) (by decide) rfl ?_
    refine r_goto (pc := 3273) (tgt := 18) dL_law_3273 rfl ?_
    refine r_sub [1, 2, 3, 0] rfl ?_
    exact hq18 _ _ _ _ _ _ _ _ h
  · have h := ie h (fun q => c (lgc_eq.mpr q))
    refine r_iconst (pc := 2865) dL_law_2865 kc_iconst_0 ?_
    cases h
def fL_law_b2820 (q18 : (Shp) → (Nat → Nat → Int32) → (Nat → Nat → Int64) → (Nat → Nat → UInt64) → (Nat → Nat → Option Nat) → (Option Nat) → (Option Nat) → (Int32) → (Option (Unit))) (xs : Nat → Int32) (Lg : Nat) (σ : Shp) (I : Nat → Nat → Int32) (J : Nat → Nat → Int64) (D : Nat → Nat → UInt64) (R : Nat → Nat → Option Nat) (x1 : Option Nat) (x2 : Option Nat) (x3 : Int32) : Option Unit :=
  (x1 : Option Nat).bind fun a280 =>
  if kdx σ a280 = 12 then
  (fX11_work σ I J R a280).bind fun (I282, J283, r284) =>
  (x2 : Option Nat).bind fun a286 =>
  if kdx σ a286 = 13 then
  (fX12_work σ I282 J283 R a286).bind fun (I288, J289, r290) =>
  if r284 = r290 then
    let v292 := x3 + (7 : Int32)
    q18 σ I288 J289 D R x1 x2 v292
  else
    none
  else none
  else none
set_option maxHeartbeats 8000000 in
set_option maxRecDepth 100000 in
theorem wL_law_b2820 {G : Gx} {l : Launch} {xs : Nat → Int32} {Lg : Nat} {σ0 : Shp} {σ : Shp} {I : Nat → Nat → Int32} {J : Nat → Nat → Int64} {D : Nat → Nat → UInt64} {R : Nat → Nat → Option Nat} {q18 : (Shp) → (Nat → Nat → Int32) → (Nat → Nat → Int64) → (Nat → Nat → UInt64) → (Nat → Nat → Option Nat) → (Option Nat) → (Option Nat) → (Int32) → (Option (Unit))} {x1 : Option Nat} {x2 : Option Nat} {x3 : Int32} (hq18 : ∀ (σ : Shp) (I : Nat → Nat → Int32) (J : Nat → Nat → Int64) (D : Nat → Nat → UInt64) (R : Nat → Nat → Option Nat) (x1 : Option Nat) (x2 : Option Nat) (x3 : Int32), q18 σ I J D R x1 x2 x3 = some () → WLaw G l xs Lg σ0 (σ, I, J, D, R) 18 [(0, vR (some 3)), (1, vR x1), (2, vR x2), (3, vI x3)] []) (h : fL_law_b2820 q18 xs Lg σ I J D R x1 x2 x3 = some ()) : WLaw G l xs Lg σ0 (σ, I, J, D, R) 2820 [(0, vR (some 3)), (1, vR x1), (2, vR x2), (3, vI x3)] [] := by
  unfold fL_law_b2820 at h
  refine r_aload_n (pc := 2820) dL_law_2820 rfl 1 rfl ?_
  obtain ⟨a280, ha280, h⟩ := ob h
  refine r_ref0 ha280 ?_
  obtain ⟨g281, h⟩ := gd h
  obtain ⟨⟨I282, J283, r284⟩, hc285, h⟩ := ob h
  refine r_callV1 (pc := 2821) (av := []) (S := []) dL_law_2821 (kX11_work hc285) g281 rfl mkL_266 mwX11_work rfl ⟨Nat.le_of_ble_eq_true rfl, Nat.le_of_ble_eq_true rfl⟩ (Nat.le_of_ble_eq_true rfl) ⟨Nat.le_refl _, Nat.le_refl _⟩ (fun b => b) ?_
  refine r_aload_n (pc := 2824) dL_law_2824 rfl 2 rfl ?_
  obtain ⟨a286, ha286, h⟩ := ob h
  refine r_ref0 ha286 ?_
  obtain ⟨g287, h⟩ := gd h
  obtain ⟨⟨I288, J289, r290⟩, hc291, h⟩ := ob h
  refine r_callV1 (pc := 2825) (av := []) (S := [vI r284]) dL_law_2825 (kX12_work hc291) g287 rfl mkL_269 mwX12_work rfl ⟨Nat.le_of_ble_eq_true rfl, Nat.le_of_ble_eq_true rfl⟩ (Nat.le_of_ble_eq_true rfl) ⟨Nat.le_refl _, Nat.le_refl _⟩ (fun b => b) ?_
  refine r_icmp_eq (pc := 2828) (tgt := 3270) dL_law_2828 rfl (fun c => ?_) (fun c => ?_)
  · have h := it h c
    refine r_iinc (pc := 3270) (v := (x3 + (7 : Int32))) (L' := [(3, vI (x3 + (7 : Int32))), (0, vR (some 3)), (1, vR x1), (2, vR x2)]) dL_law_3270 3 rfl (kc_inc_7 _) (by decide) rfl ?_
    refine r_goto (pc := 3273) (tgt := 18) dL_law_3273 rfl ?_
    refine r_sub [1, 2, 3, 0] rfl ?_
    exact hq18 _ _ _ _ _ _ _ _ h
  · have h := ie h c
    refine r_iconst (pc := 2831) dL_law_2831 kc_iconst_0 ?_
    cases h
def fL_law_b2777 (q18 : (Shp) → (Nat → Nat → Int32) → (Nat → Nat → Int64) → (Nat → Nat → UInt64) → (Nat → Nat → Option Nat) → (Option Nat) → (Option Nat) → (Int32) → (Option (Unit))) (xs : Nat → Int32) (Lg : Nat) (σ : Shp) (I : Nat → Nat → Int32) (J : Nat → Nat → Int64) (D : Nat → Nat → UInt64) (R : Nat → Nat → Option Nat) (x1 : Option Nat) (x2 : Option Nat) (x3 : Int32) : Option Unit :=
  if ¬ ((x3 + (1 : Int32)) < 0 ∨ Lg ≤ Int32.toNatClampNeg (x3 + (1 : Int32))) then
  if ¬ ((x3 + (2 : Int32)) < 0 ∨ Lg ≤ Int32.toNatClampNeg (x3 + (2 : Int32))) then
  if ¬ ((x3 + (3 : Int32)) < 0 ∨ Lg ≤ Int32.toNatClampNeg (x3 + (3 : Int32))) then
  (x1 : Option Nat).bind fun a296 =>
  if kdx σ a296 = 12 then
  (fX11_salt σ I R a296 (xs (Int32.toNatClampNeg (x3 + (1 : Int32)))) (xs (Int32.toNatClampNeg (x3 + (2 : Int32)))) (xs (Int32.toNatClampNeg (x3 + (3 : Int32))))).bind fun (I298, r299) =>
  (x2 : Option Nat).bind fun a301 =>
  if kdx σ a301 = 13 then
  (fX12_salt σ I298 R a301 (xs (Int32.toNatClampNeg (x3 + (1 : Int32)))) (xs (Int32.toNatClampNeg (x3 + (2 : Int32)))) (xs (Int32.toNatClampNeg (x3 + (3 : Int32))))).bind fun (I303, r304) =>
  if r299 = r304 then
    let v306 := x3 + (7 : Int32)
    q18 σ I303 J D R x1 x2 v306
  else
    none
  else none
  else none
  else none
  else none
  else none
set_option maxHeartbeats 8000000 in
set_option maxRecDepth 100000 in
theorem wL_law_b2777 {G : Gx} {l : Launch} {xs : Nat → Int32} {Lg : Nat} {σ0 : Shp} {σ : Shp} {I : Nat → Nat → Int32} {J : Nat → Nat → Int64} {D : Nat → Nat → UInt64} {R : Nat → Nat → Option Nat} {q18 : (Shp) → (Nat → Nat → Int32) → (Nat → Nat → Int64) → (Nat → Nat → UInt64) → (Nat → Nat → Option Nat) → (Option Nat) → (Option Nat) → (Int32) → (Option (Unit))} {x1 : Option Nat} {x2 : Option Nat} {x3 : Int32} (hq18 : ∀ (σ : Shp) (I : Nat → Nat → Int32) (J : Nat → Nat → Int64) (D : Nat → Nat → UInt64) (R : Nat → Nat → Option Nat) (x1 : Option Nat) (x2 : Option Nat) (x3 : Int32), q18 σ I J D R x1 x2 x3 = some () → WLaw G l xs Lg σ0 (σ, I, J, D, R) 18 [(0, vR (some 3)), (1, vR x1), (2, vR x2), (3, vI x3)] []) (h : fL_law_b2777 q18 xs Lg σ I J D R x1 x2 x3 = some ()) : WLaw G l xs Lg σ0 (σ, I, J, D, R) 2777 [(0, vR (some 3)), (1, vR x1), (2, vR x2), (3, vI x3)] [] := by
  unfold fL_law_b2777 at h
  refine r_aload_n (pc := 2777) dL_law_2777 rfl 1 rfl ?_
  refine r_aload_n (pc := 2778) dL_law_2778 rfl 0 rfl ?_
  refine r_iload_n (pc := 2779) dL_law_2779 rfl 3 rfl ?_
  refine r_iconst (pc := 2780) dL_law_2780 kc_iconst_1 ?_
  refine r_iadd (pc := 2781) dL_law_2781 ?_
  obtain ⟨g293, h⟩ := gd h
  refine r_scld (pc := 2782) dL_law_2782 g293 ?_
  refine r_aload_n (pc := 2783) dL_law_2783 rfl 0 rfl ?_
  refine r_iload_n (pc := 2784) dL_law_2784 rfl 3 rfl ?_
  refine r_iconst (pc := 2785) dL_law_2785 kc_iconst_2 ?_
  refine r_iadd (pc := 2786) dL_law_2786 ?_
  obtain ⟨g294, h⟩ := gd h
  refine r_scld (pc := 2787) dL_law_2787 g294 ?_
  refine r_aload_n (pc := 2788) dL_law_2788 rfl 0 rfl ?_
  refine r_iload_n (pc := 2789) dL_law_2789 rfl 3 rfl ?_
  refine r_iconst (pc := 2790) dL_law_2790 kc_iconst_3 ?_
  refine r_iadd (pc := 2791) dL_law_2791 ?_
  obtain ⟨g295, h⟩ := gd h
  refine r_scld (pc := 2792) dL_law_2792 g295 ?_
  obtain ⟨a296, ha296, h⟩ := ob h
  refine r_ref3 ha296 ?_
  obtain ⟨g297, h⟩ := gd h
  obtain ⟨⟨I298, r299⟩, hc300, h⟩ := ob h
  refine r_callV1 (pc := 2793) (av := [vI (xs (Int32.toNatClampNeg (x3 + (1 : Int32)))), vI (xs (Int32.toNatClampNeg (x3 + (2 : Int32)))), vI (xs (Int32.toNatClampNeg (x3 + (3 : Int32))))]) (S := []) dL_law_2793 (kX11_salt hc300) g297 rfl mkL_262 mwX11_salt rfl ⟨Nat.le_of_ble_eq_true rfl, Nat.le_of_ble_eq_true rfl⟩ (Nat.le_of_ble_eq_true rfl) ⟨Nat.le_refl _, Nat.le_refl _⟩ (fun b => b) ?_
  refine r_aload_n (pc := 2796) dL_law_2796 rfl 2 rfl ?_
  refine r_aload_n (pc := 2797) dL_law_2797 rfl 0 rfl ?_
  refine r_iload_n (pc := 2798) dL_law_2798 rfl 3 rfl ?_
  refine r_iconst (pc := 2799) dL_law_2799 kc_iconst_1 ?_
  refine r_iadd (pc := 2800) dL_law_2800 ?_
  refine r_scld (pc := 2801) dL_law_2801 g293 ?_
  refine r_aload_n (pc := 2802) dL_law_2802 rfl 0 rfl ?_
  refine r_iload_n (pc := 2803) dL_law_2803 rfl 3 rfl ?_
  refine r_iconst (pc := 2804) dL_law_2804 kc_iconst_2 ?_
  refine r_iadd (pc := 2805) dL_law_2805 ?_
  refine r_scld (pc := 2806) dL_law_2806 g294 ?_
  refine r_aload_n (pc := 2807) dL_law_2807 rfl 0 rfl ?_
  refine r_iload_n (pc := 2808) dL_law_2808 rfl 3 rfl ?_
  refine r_iconst (pc := 2809) dL_law_2809 kc_iconst_3 ?_
  refine r_iadd (pc := 2810) dL_law_2810 ?_
  refine r_scld (pc := 2811) dL_law_2811 g295 ?_
  obtain ⟨a301, ha301, h⟩ := ob h
  refine r_ref3 ha301 ?_
  obtain ⟨g302, h⟩ := gd h
  obtain ⟨⟨I303, r304⟩, hc305, h⟩ := ob h
  refine r_callV1 (pc := 2812) (av := [vI (xs (Int32.toNatClampNeg (x3 + (1 : Int32)))), vI (xs (Int32.toNatClampNeg (x3 + (2 : Int32)))), vI (xs (Int32.toNatClampNeg (x3 + (3 : Int32))))]) (S := [vI r299]) dL_law_2812 (kX12_salt hc305) g302 rfl mkL_265 mwX12_salt rfl ⟨Nat.le_of_ble_eq_true rfl, Nat.le_of_ble_eq_true rfl⟩ (Nat.le_of_ble_eq_true rfl) ⟨Nat.le_refl _, Nat.le_refl _⟩ (fun b => b) ?_
  refine r_icmp_eq (pc := 2815) (tgt := 3270) dL_law_2815 rfl (fun c => ?_) (fun c => ?_)
  · have h := it h c
    refine r_iinc (pc := 3270) (v := (x3 + (7 : Int32))) (L' := [(3, vI (x3 + (7 : Int32))), (0, vR (some 3)), (1, vR x1), (2, vR x2)]) dL_law_3270 3 rfl (kc_inc_7 _) (by decide) rfl ?_
    refine r_goto (pc := 3273) (tgt := 18) dL_law_3273 rfl ?_
    refine r_sub [1, 2, 3, 0] rfl ?_
    exact hq18 _ _ _ _ _ _ _ _ h
  · have h := ie h c
    refine r_iconst (pc := 2818) dL_law_2818 kc_iconst_0 ?_
    cases h
def fL_law_b2754 (q18 : (Shp) → (Nat → Nat → Int32) → (Nat → Nat → Int64) → (Nat → Nat → UInt64) → (Nat → Nat → Option Nat) → (Option Nat) → (Option Nat) → (Int32) → (Option (Unit))) (xs : Nat → Int32) (Lg : Nat) (σ : Shp) (I : Nat → Nat → Int32) (J : Nat → Nat → Int64) (D : Nat → Nat → UInt64) (R : Nat → Nat → Option Nat) (x1 : Option Nat) (x2 : Option Nat) (x3 : Int32) : Option Unit :=
  if ¬ ((x3 + (1 : Int32)) < 0 ∨ Lg ≤ Int32.toNatClampNeg (x3 + (1 : Int32))) then
  (x1 : Option Nat).bind fun a308 =>
  if kdx σ a308 = 12 then
  (fX11_wholeMean σ I J R a308 (xs (Int32.toNatClampNeg (x3 + (1 : Int32))))).bind fun (I310, r311) =>
  (x2 : Option Nat).bind fun a313 =>
  if kdx σ a313 = 13 then
  (fX12_wholeMean σ I310 J R a313 (xs (Int32.toNatClampNeg (x3 + (1 : Int32))))).bind fun (I315, r316) =>
  if r311 = r316 then
    let v318 := x3 + (7 : Int32)
    q18 σ I315 J D R x1 x2 v318
  else
    none
  else none
  else none
  else none
set_option maxHeartbeats 8000000 in
set_option maxRecDepth 100000 in
theorem wL_law_b2754 {G : Gx} {l : Launch} {xs : Nat → Int32} {Lg : Nat} {σ0 : Shp} {σ : Shp} {I : Nat → Nat → Int32} {J : Nat → Nat → Int64} {D : Nat → Nat → UInt64} {R : Nat → Nat → Option Nat} {q18 : (Shp) → (Nat → Nat → Int32) → (Nat → Nat → Int64) → (Nat → Nat → UInt64) → (Nat → Nat → Option Nat) → (Option Nat) → (Option Nat) → (Int32) → (Option (Unit))} {x1 : Option Nat} {x2 : Option Nat} {x3 : Int32} (hq18 : ∀ (σ : Shp) (I : Nat → Nat → Int32) (J : Nat → Nat → Int64) (D : Nat → Nat → UInt64) (R : Nat → Nat → Option Nat) (x1 : Option Nat) (x2 : Option Nat) (x3 : Int32), q18 σ I J D R x1 x2 x3 = some () → WLaw G l xs Lg σ0 (σ, I, J, D, R) 18 [(0, vR (some 3)), (1, vR x1), (2, vR x2), (3, vI x3)] []) (h : fL_law_b2754 q18 xs Lg σ I J D R x1 x2 x3 = some ()) : WLaw G l xs Lg σ0 (σ, I, J, D, R) 2754 [(0, vR (some 3)), (1, vR x1), (2, vR x2), (3, vI x3)] [] := by
  unfold fL_law_b2754 at h
  refine r_aload_n (pc := 2754) dL_law_2754 rfl 1 rfl ?_
  refine r_aload_n (pc := 2755) dL_law_2755 rfl 0 rfl ?_
  refine r_iload_n (pc := 2756) dL_law_2756 rfl 3 rfl ?_
  refine r_iconst (pc := 2757) dL_law_2757 kc_iconst_1 ?_
  refine r_iadd (pc := 2758) dL_law_2758 ?_
  obtain ⟨g307, h⟩ := gd h
  refine r_scld (pc := 2759) dL_law_2759 g307 ?_
  obtain ⟨a308, ha308, h⟩ := ob h
  refine r_ref1 ha308 ?_
  obtain ⟨g309, h⟩ := gd h
  obtain ⟨⟨I310, r311⟩, hc312, h⟩ := ob h
  refine r_callV1 (pc := 2760) (av := [vI (xs (Int32.toNatClampNeg (x3 + (1 : Int32))))]) (S := []) dL_law_2760 (kX11_wholeMean hc312) g309 rfl mkL_258 mwX11_wholeMean rfl ⟨Nat.le_of_ble_eq_true rfl, Nat.le_of_ble_eq_true rfl⟩ (Nat.le_of_ble_eq_true rfl) ⟨Nat.le_refl _, Nat.le_refl _⟩ (fun b => b) ?_
  refine r_aload_n (pc := 2763) dL_law_2763 rfl 2 rfl ?_
  refine r_aload_n (pc := 2764) dL_law_2764 rfl 0 rfl ?_
  refine r_iload_n (pc := 2765) dL_law_2765 rfl 3 rfl ?_
  refine r_iconst (pc := 2766) dL_law_2766 kc_iconst_1 ?_
  refine r_iadd (pc := 2767) dL_law_2767 ?_
  refine r_scld (pc := 2768) dL_law_2768 g307 ?_
  obtain ⟨a313, ha313, h⟩ := ob h
  refine r_ref1 ha313 ?_
  obtain ⟨g314, h⟩ := gd h
  obtain ⟨⟨I315, r316⟩, hc317, h⟩ := ob h
  refine r_callV1 (pc := 2769) (av := [vI (xs (Int32.toNatClampNeg (x3 + (1 : Int32))))]) (S := [vI r311]) dL_law_2769 (kX12_wholeMean hc317) g314 rfl mkL_261 mwX12_wholeMean rfl ⟨Nat.le_of_ble_eq_true rfl, Nat.le_of_ble_eq_true rfl⟩ (Nat.le_of_ble_eq_true rfl) ⟨Nat.le_refl _, Nat.le_refl _⟩ (fun b => b) ?_
  refine r_icmp_eq (pc := 2772) (tgt := 3270) dL_law_2772 rfl (fun c => ?_) (fun c => ?_)
  · have h := it h c
    refine r_iinc (pc := 3270) (v := (x3 + (7 : Int32))) (L' := [(3, vI (x3 + (7 : Int32))), (0, vR (some 3)), (1, vR x1), (2, vR x2)]) dL_law_3270 3 rfl (kc_inc_7 _) (by decide) rfl ?_
    refine r_goto (pc := 3273) (tgt := 18) dL_law_3273 rfl ?_
    refine r_sub [1, 2, 3, 0] rfl ?_
    exact hq18 _ _ _ _ _ _ _ _ h
  · have h := ie h c
    refine r_iconst (pc := 2775) dL_law_2775 kc_iconst_0 ?_
    cases h
def fL_law_b2710 (q18 : (Shp) → (Nat → Nat → Int32) → (Nat → Nat → Int64) → (Nat → Nat → UInt64) → (Nat → Nat → Option Nat) → (Option Nat) → (Option Nat) → (Int32) → (Option (Unit))) (xs : Nat → Int32) (Lg : Nat) (σ : Shp) (I : Nat → Nat → Int32) (J : Nat → Nat → Int64) (D : Nat → Nat → UInt64) (R : Nat → Nat → Option Nat) (x1 : Option Nat) (x2 : Option Nat) (x3 : Int32) : Option Unit :=
  if ¬ ((x3 + (1 : Int32)) < 0 ∨ Lg ≤ Int32.toNatClampNeg (x3 + (1 : Int32))) then
  if ¬ ((x3 + (2 : Int32)) < 0 ∨ Lg ≤ Int32.toNatClampNeg (x3 + (2 : Int32))) then
  if ¬ ((x3 + (3 : Int32)) < 0 ∨ Lg ≤ Int32.toNatClampNeg (x3 + (3 : Int32))) then
  (x1 : Option Nat).bind fun a322 =>
  if kdx σ a322 = 12 then
  (fX11_real σ I J R a322 (xs (Int32.toNatClampNeg (x3 + (1 : Int32)))) (xs (Int32.toNatClampNeg (x3 + (2 : Int32)))) (xs (Int32.toNatClampNeg (x3 + (3 : Int32))))).bind fun (I324, J325, r326) =>
  (x2 : Option Nat).bind fun a328 =>
  if kdx σ a328 = 13 then
  (fX12_real σ I324 J325 D R a328 (xs (Int32.toNatClampNeg (x3 + (1 : Int32)))) (xs (Int32.toNatClampNeg (x3 + (2 : Int32)))) (xs (Int32.toNatClampNeg (x3 + (3 : Int32))))).bind fun (I330, J331, D332, r333) =>
  if r326 = r333 then
    let v335 := x3 + (7 : Int32)
    q18 σ I330 J331 D332 R x1 x2 v335
  else
    none
  else none
  else none
  else none
  else none
  else none
set_option maxHeartbeats 8000000 in
set_option maxRecDepth 100000 in
theorem wL_law_b2710 {G : Gx} {l : Launch} {xs : Nat → Int32} {Lg : Nat} {σ0 : Shp} {σ : Shp} {I : Nat → Nat → Int32} {J : Nat → Nat → Int64} {D : Nat → Nat → UInt64} {R : Nat → Nat → Option Nat} {q18 : (Shp) → (Nat → Nat → Int32) → (Nat → Nat → Int64) → (Nat → Nat → UInt64) → (Nat → Nat → Option Nat) → (Option Nat) → (Option Nat) → (Int32) → (Option (Unit))} {x1 : Option Nat} {x2 : Option Nat} {x3 : Int32} (hq18 : ∀ (σ : Shp) (I : Nat → Nat → Int32) (J : Nat → Nat → Int64) (D : Nat → Nat → UInt64) (R : Nat → Nat → Option Nat) (x1 : Option Nat) (x2 : Option Nat) (x3 : Int32), q18 σ I J D R x1 x2 x3 = some () → WLaw G l xs Lg σ0 (σ, I, J, D, R) 18 [(0, vR (some 3)), (1, vR x1), (2, vR x2), (3, vI x3)] []) (h : fL_law_b2710 q18 xs Lg σ I J D R x1 x2 x3 = some ()) : WLaw G l xs Lg σ0 (σ, I, J, D, R) 2710 [(0, vR (some 3)), (1, vR x1), (2, vR x2), (3, vI x3)] [] := by
  unfold fL_law_b2710 at h
  refine r_aload_n (pc := 2710) dL_law_2710 rfl 1 rfl ?_
  refine r_aload_n (pc := 2711) dL_law_2711 rfl 0 rfl ?_
  refine r_iload_n (pc := 2712) dL_law_2712 rfl 3 rfl ?_
  refine r_iconst (pc := 2713) dL_law_2713 kc_iconst_1 ?_
  refine r_iadd (pc := 2714) dL_law_2714 ?_
  obtain ⟨g319, h⟩ := gd h
  refine r_scld (pc := 2715) dL_law_2715 g319 ?_
  refine r_aload_n (pc := 2716) dL_law_2716 rfl 0 rfl ?_
  refine r_iload_n (pc := 2717) dL_law_2717 rfl 3 rfl ?_
  refine r_iconst (pc := 2718) dL_law_2718 kc_iconst_2 ?_
  refine r_iadd (pc := 2719) dL_law_2719 ?_
  obtain ⟨g320, h⟩ := gd h
  refine r_scld (pc := 2720) dL_law_2720 g320 ?_
  refine r_aload_n (pc := 2721) dL_law_2721 rfl 0 rfl ?_
  refine r_iload_n (pc := 2722) dL_law_2722 rfl 3 rfl ?_
  refine r_iconst (pc := 2723) dL_law_2723 kc_iconst_3 ?_
  refine r_iadd (pc := 2724) dL_law_2724 ?_
  obtain ⟨g321, h⟩ := gd h
  refine r_scld (pc := 2725) dL_law_2725 g321 ?_
  obtain ⟨a322, ha322, h⟩ := ob h
  refine r_ref3 ha322 ?_
  obtain ⟨g323, h⟩ := gd h
  obtain ⟨⟨I324, J325, r326⟩, hc327, h⟩ := ob h
  refine r_callV1 (pc := 2726) (av := [vI (xs (Int32.toNatClampNeg (x3 + (1 : Int32)))), vI (xs (Int32.toNatClampNeg (x3 + (2 : Int32)))), vI (xs (Int32.toNatClampNeg (x3 + (3 : Int32))))]) (S := []) dL_law_2726 (kX11_real hc327) g323 rfl mkL_254 mwX11_real rfl ⟨Nat.le_of_ble_eq_true rfl, Nat.le_of_ble_eq_true rfl⟩ (Nat.le_of_ble_eq_true rfl) ⟨Nat.le_refl _, Nat.le_refl _⟩ (fun b => b) ?_
  refine r_aload_n (pc := 2729) dL_law_2729 rfl 2 rfl ?_
  refine r_aload_n (pc := 2730) dL_law_2730 rfl 0 rfl ?_
  refine r_iload_n (pc := 2731) dL_law_2731 rfl 3 rfl ?_
  refine r_iconst (pc := 2732) dL_law_2732 kc_iconst_1 ?_
  refine r_iadd (pc := 2733) dL_law_2733 ?_
  refine r_scld (pc := 2734) dL_law_2734 g319 ?_
  refine r_aload_n (pc := 2735) dL_law_2735 rfl 0 rfl ?_
  refine r_iload_n (pc := 2736) dL_law_2736 rfl 3 rfl ?_
  refine r_iconst (pc := 2737) dL_law_2737 kc_iconst_2 ?_
  refine r_iadd (pc := 2738) dL_law_2738 ?_
  refine r_scld (pc := 2739) dL_law_2739 g320 ?_
  refine r_aload_n (pc := 2740) dL_law_2740 rfl 0 rfl ?_
  refine r_iload_n (pc := 2741) dL_law_2741 rfl 3 rfl ?_
  refine r_iconst (pc := 2742) dL_law_2742 kc_iconst_3 ?_
  refine r_iadd (pc := 2743) dL_law_2743 ?_
  refine r_scld (pc := 2744) dL_law_2744 g321 ?_
  obtain ⟨a328, ha328, h⟩ := ob h
  refine r_ref3 ha328 ?_
  obtain ⟨g329, h⟩ := gd h
  obtain ⟨⟨I330, J331, D332, r333⟩, hc334, h⟩ := ob h
  refine r_callV1 (pc := 2745) (av := [vI (xs (Int32.toNatClampNeg (x3 + (1 : Int32)))), vI (xs (Int32.toNatClampNeg (x3 + (2 : Int32)))), vI (xs (Int32.toNatClampNeg (x3 + (3 : Int32))))]) (S := [vL r326]) dL_law_2745 (kX12_real hc334) g329 rfl mkL_257 mwX12_real rfl ⟨Nat.le_of_ble_eq_true rfl, Nat.le_of_ble_eq_true rfl⟩ (Nat.le_of_ble_eq_true rfl) ⟨Nat.le_refl _, Nat.le_refl _⟩ (fun b => b) ?_
  refine r_lcmp (pc := 2748) dL_law_2748 ?_
  refine r_if_eq (pc := 2749) (tgt := 3270) dL_law_2749 rfl (fun c => ?_) (fun c => ?_)
  · have h := it h (lgc_eq.mp c)
    refine r_iinc (pc := 3270) (v := (x3 + (7 : Int32))) (L' := [(3, vI (x3 + (7 : Int32))), (0, vR (some 3)), (1, vR x1), (2, vR x2)]) dL_law_3270 3 rfl (kc_inc_7 _) (by decide) rfl ?_
    refine r_goto (pc := 3273) (tgt := 18) dL_law_3273 rfl ?_
    refine r_sub [1, 2, 3, 0] rfl ?_
    exact hq18 _ _ _ _ _ _ _ _ h
  · have h := ie h (fun q => c (lgc_eq.mpr q))
    refine r_iconst (pc := 2752) dL_law_2752 kc_iconst_0 ?_
    cases h
def fL_law_b2647 (q18 : (Shp) → (Nat → Nat → Int32) → (Nat → Nat → Int64) → (Nat → Nat → UInt64) → (Nat → Nat → Option Nat) → (Option Nat) → (Option Nat) → (Int32) → (Option (Unit))) (xs : Nat → Int32) (Lg : Nat) (σ : Shp) (I : Nat → Nat → Int32) (J : Nat → Nat → Int64) (D : Nat → Nat → UInt64) (R : Nat → Nat → Option Nat) (x1 : Option Nat) (x2 : Option Nat) (x3 : Int32) : Option Unit :=
  if ¬ ((x3 + (1 : Int32)) < 0 ∨ Lg ≤ Int32.toNatClampNeg (x3 + (1 : Int32))) then
  if ¬ ((x3 + (2 : Int32)) < 0 ∨ Lg ≤ Int32.toNatClampNeg (x3 + (2 : Int32))) then
  if ¬ ((x3 + (3 : Int32)) < 0 ∨ Lg ≤ Int32.toNatClampNeg (x3 + (3 : Int32))) then
  if ¬ ((x3 + (4 : Int32)) < 0 ∨ Lg ≤ Int32.toNatClampNeg (x3 + (4 : Int32))) then
  if ¬ ((x3 + (5 : Int32)) < 0 ∨ Lg ≤ Int32.toNatClampNeg (x3 + (5 : Int32))) then
  (x1 : Option Nat).bind fun a341 =>
  if kdx σ a341 = 12 then
  (fX11_compare σ I J R a341 (xs (Int32.toNatClampNeg (x3 + (1 : Int32)))) (xs (Int32.toNatClampNeg (x3 + (2 : Int32)))) (xs (Int32.toNatClampNeg (x3 + (3 : Int32)))) (xs (Int32.toNatClampNeg (x3 + (4 : Int32)))) (xs (Int32.toNatClampNeg (x3 + (5 : Int32))))).bind fun (I343, r344) =>
  (x2 : Option Nat).bind fun a346 =>
  if kdx σ a346 = 13 then
  (fX12_compare σ I343 J R a346 (xs (Int32.toNatClampNeg (x3 + (1 : Int32)))) (xs (Int32.toNatClampNeg (x3 + (2 : Int32)))) (xs (Int32.toNatClampNeg (x3 + (3 : Int32)))) (xs (Int32.toNatClampNeg (x3 + (4 : Int32)))) (xs (Int32.toNatClampNeg (x3 + (5 : Int32))))).bind fun (I348, r349) =>
  if r344 = r349 then
    let v351 := x3 + (7 : Int32)
    q18 σ I348 J D R x1 x2 v351
  else
    none
  else none
  else none
  else none
  else none
  else none
  else none
  else none
set_option maxHeartbeats 8000000 in
set_option maxRecDepth 100000 in
theorem wL_law_b2647 {G : Gx} {l : Launch} {xs : Nat → Int32} {Lg : Nat} {σ0 : Shp} {σ : Shp} {I : Nat → Nat → Int32} {J : Nat → Nat → Int64} {D : Nat → Nat → UInt64} {R : Nat → Nat → Option Nat} {q18 : (Shp) → (Nat → Nat → Int32) → (Nat → Nat → Int64) → (Nat → Nat → UInt64) → (Nat → Nat → Option Nat) → (Option Nat) → (Option Nat) → (Int32) → (Option (Unit))} {x1 : Option Nat} {x2 : Option Nat} {x3 : Int32} (hq18 : ∀ (σ : Shp) (I : Nat → Nat → Int32) (J : Nat → Nat → Int64) (D : Nat → Nat → UInt64) (R : Nat → Nat → Option Nat) (x1 : Option Nat) (x2 : Option Nat) (x3 : Int32), q18 σ I J D R x1 x2 x3 = some () → WLaw G l xs Lg σ0 (σ, I, J, D, R) 18 [(0, vR (some 3)), (1, vR x1), (2, vR x2), (3, vI x3)] []) (h : fL_law_b2647 q18 xs Lg σ I J D R x1 x2 x3 = some ()) : WLaw G l xs Lg σ0 (σ, I, J, D, R) 2647 [(0, vR (some 3)), (1, vR x1), (2, vR x2), (3, vI x3)] [] := by
  unfold fL_law_b2647 at h
  refine r_aload_n (pc := 2647) dL_law_2647 rfl 1 rfl ?_
  refine r_aload_n (pc := 2648) dL_law_2648 rfl 0 rfl ?_
  refine r_iload_n (pc := 2649) dL_law_2649 rfl 3 rfl ?_
  refine r_iconst (pc := 2650) dL_law_2650 kc_iconst_1 ?_
  refine r_iadd (pc := 2651) dL_law_2651 ?_
  obtain ⟨g336, h⟩ := gd h
  refine r_scld (pc := 2652) dL_law_2652 g336 ?_
  refine r_aload_n (pc := 2653) dL_law_2653 rfl 0 rfl ?_
  refine r_iload_n (pc := 2654) dL_law_2654 rfl 3 rfl ?_
  refine r_iconst (pc := 2655) dL_law_2655 kc_iconst_2 ?_
  refine r_iadd (pc := 2656) dL_law_2656 ?_
  obtain ⟨g337, h⟩ := gd h
  refine r_scld (pc := 2657) dL_law_2657 g337 ?_
  refine r_aload_n (pc := 2658) dL_law_2658 rfl 0 rfl ?_
  refine r_iload_n (pc := 2659) dL_law_2659 rfl 3 rfl ?_
  refine r_iconst (pc := 2660) dL_law_2660 kc_iconst_3 ?_
  refine r_iadd (pc := 2661) dL_law_2661 ?_
  obtain ⟨g338, h⟩ := gd h
  refine r_scld (pc := 2662) dL_law_2662 g338 ?_
  refine r_aload_n (pc := 2663) dL_law_2663 rfl 0 rfl ?_
  refine r_iload_n (pc := 2664) dL_law_2664 rfl 3 rfl ?_
  refine r_iconst (pc := 2665) dL_law_2665 kc_iconst_4 ?_
  refine r_iadd (pc := 2666) dL_law_2666 ?_
  obtain ⟨g339, h⟩ := gd h
  refine r_scld (pc := 2667) dL_law_2667 g339 ?_
  refine r_aload_n (pc := 2668) dL_law_2668 rfl 0 rfl ?_
  refine r_iload_n (pc := 2669) dL_law_2669 rfl 3 rfl ?_
  refine r_iconst (pc := 2670) dL_law_2670 kc_iconst_5 ?_
  refine r_iadd (pc := 2671) dL_law_2671 ?_
  obtain ⟨g340, h⟩ := gd h
  refine r_scld (pc := 2672) dL_law_2672 g340 ?_
  obtain ⟨a341, ha341, h⟩ := ob h
  refine r_ref5 ha341 ?_
  obtain ⟨g342, h⟩ := gd h
  obtain ⟨⟨I343, r344⟩, hc345, h⟩ := ob h
  refine r_callV1 (pc := 2673) (av := [vI (xs (Int32.toNatClampNeg (x3 + (1 : Int32)))), vI (xs (Int32.toNatClampNeg (x3 + (2 : Int32)))), vI (xs (Int32.toNatClampNeg (x3 + (3 : Int32)))), vI (xs (Int32.toNatClampNeg (x3 + (4 : Int32)))), vI (xs (Int32.toNatClampNeg (x3 + (5 : Int32))))]) (S := []) dL_law_2673 (kX11_compare hc345) g342 rfl mkL_250 mwX11_compare rfl ⟨Nat.le_of_ble_eq_true rfl, Nat.le_of_ble_eq_true rfl⟩ (Nat.le_of_ble_eq_true rfl) ⟨Nat.le_refl _, Nat.le_refl _⟩ (fun b => b) ?_
  refine r_aload_n (pc := 2676) dL_law_2676 rfl 2 rfl ?_
  refine r_aload_n (pc := 2677) dL_law_2677 rfl 0 rfl ?_
  refine r_iload_n (pc := 2678) dL_law_2678 rfl 3 rfl ?_
  refine r_iconst (pc := 2679) dL_law_2679 kc_iconst_1 ?_
  refine r_iadd (pc := 2680) dL_law_2680 ?_
  refine r_scld (pc := 2681) dL_law_2681 g336 ?_
  refine r_aload_n (pc := 2682) dL_law_2682 rfl 0 rfl ?_
  refine r_iload_n (pc := 2683) dL_law_2683 rfl 3 rfl ?_
  refine r_iconst (pc := 2684) dL_law_2684 kc_iconst_2 ?_
  refine r_iadd (pc := 2685) dL_law_2685 ?_
  refine r_scld (pc := 2686) dL_law_2686 g337 ?_
  refine r_aload_n (pc := 2687) dL_law_2687 rfl 0 rfl ?_
  refine r_iload_n (pc := 2688) dL_law_2688 rfl 3 rfl ?_
  refine r_iconst (pc := 2689) dL_law_2689 kc_iconst_3 ?_
  refine r_iadd (pc := 2690) dL_law_2690 ?_
  refine r_scld (pc := 2691) dL_law_2691 g338 ?_
  refine r_aload_n (pc := 2692) dL_law_2692 rfl 0 rfl ?_
  refine r_iload_n (pc := 2693) dL_law_2693 rfl 3 rfl ?_
  refine r_iconst (pc := 2694) dL_law_2694 kc_iconst_4 ?_
  refine r_iadd (pc := 2695) dL_law_2695 ?_
  refine r_scld (pc := 2696) dL_law_2696 g339 ?_
  refine r_aload_n (pc := 2697) dL_law_2697 rfl 0 rfl ?_
  refine r_iload_n (pc := 2698) dL_law_2698 rfl 3 rfl ?_
  refine r_iconst (pc := 2699) dL_law_2699 kc_iconst_5 ?_
  refine r_iadd (pc := 2700) dL_law_2700 ?_
  refine r_scld (pc := 2701) dL_law_2701 g340 ?_
  obtain ⟨a346, ha346, h⟩ := ob h
  refine r_ref5 ha346 ?_
  obtain ⟨g347, h⟩ := gd h
  obtain ⟨⟨I348, r349⟩, hc350, h⟩ := ob h
  refine r_callV1 (pc := 2702) (av := [vI (xs (Int32.toNatClampNeg (x3 + (1 : Int32)))), vI (xs (Int32.toNatClampNeg (x3 + (2 : Int32)))), vI (xs (Int32.toNatClampNeg (x3 + (3 : Int32)))), vI (xs (Int32.toNatClampNeg (x3 + (4 : Int32)))), vI (xs (Int32.toNatClampNeg (x3 + (5 : Int32))))]) (S := [vI r344]) dL_law_2702 (kX12_compare hc350) g347 rfl mkL_253 mwX12_compare rfl ⟨Nat.le_of_ble_eq_true rfl, Nat.le_of_ble_eq_true rfl⟩ (Nat.le_of_ble_eq_true rfl) ⟨Nat.le_refl _, Nat.le_refl _⟩ (fun b => b) ?_
  refine r_icmp_eq (pc := 2705) (tgt := 3270) dL_law_2705 rfl (fun c => ?_) (fun c => ?_)
  · have h := it h c
    refine r_iinc (pc := 3270) (v := (x3 + (7 : Int32))) (L' := [(3, vI (x3 + (7 : Int32))), (0, vR (some 3)), (1, vR x1), (2, vR x2)]) dL_law_3270 3 rfl (kc_inc_7 _) (by decide) rfl ?_
    refine r_goto (pc := 3273) (tgt := 18) dL_law_3273 rfl ?_
    refine r_sub [1, 2, 3, 0] rfl ?_
    exact hq18 _ _ _ _ _ _ _ _ h
  · have h := ie h c
    refine r_iconst (pc := 2708) dL_law_2708 kc_iconst_0 ?_
    cases h
def fL_law_b2531 (q18 : (Shp) → (Nat → Nat → Int32) → (Nat → Nat → Int64) → (Nat → Nat → UInt64) → (Nat → Nat → Option Nat) → (Option Nat) → (Option Nat) → (Int32) → (Option (Unit))) (xs : Nat → Int32) (Lg : Nat) (σ : Shp) (I : Nat → Nat → Int32) (J : Nat → Nat → Int64) (D : Nat → Nat → UInt64) (R : Nat → Nat → Option Nat) (x1 : Option Nat) (x2 : Option Nat) (x3 : Int32) : Option Unit :=
  if ¬ ((x3 + (1 : Int32)) < 0 ∨ Lg ≤ Int32.toNatClampNeg (x3 + (1 : Int32))) then
  if ¬ ((x3 + (2 : Int32)) < 0 ∨ Lg ≤ Int32.toNatClampNeg (x3 + (2 : Int32))) then
  if ¬ ((x3 + (3 : Int32)) < 0 ∨ Lg ≤ Int32.toNatClampNeg (x3 + (3 : Int32))) then
  if ¬ ((x3 + (4 : Int32)) < 0 ∨ Lg ≤ Int32.toNatClampNeg (x3 + (4 : Int32))) then
  if ¬ ((x3 + (5 : Int32)) < 0 ∨ Lg ≤ Int32.toNatClampNeg (x3 + (5 : Int32))) then
  if ¬ ((x3 + (6 : Int32)) < 0 ∨ Lg ≤ Int32.toNatClampNeg (x3 + (6 : Int32))) then
  (x1 : Option Nat).bind fun a358 =>
  if kdx σ a358 = 12 then
  (fX11_quotient σ I a358 (xs (Int32.toNatClampNeg (x3 + (1 : Int32)))) (((Int32.toInt64 (xs (Int32.toNatClampNeg (x3 + (2 : Int32))))) <<< (Int32.toInt64 (32 : Int32) &&& 63)) ||| ((Int32.toInt64 (xs (Int32.toNatClampNeg (x3 + (3 : Int32))))) &&& (4294967295 : Int64))) (((Int32.toInt64 (xs (Int32.toNatClampNeg (x3 + (4 : Int32))))) <<< (Int32.toInt64 (32 : Int32) &&& 63)) ||| ((Int32.toInt64 (xs (Int32.toNatClampNeg (x3 + (5 : Int32))))) &&& (4294967295 : Int64))) (xs (Int32.toNatClampNeg (x3 + (6 : Int32))))).bind fun (I360, r361) =>
  (x2 : Option Nat).bind fun a363 =>
  if kdx σ a363 = 13 then
  (fX12_quotient σ I360 a363 (xs (Int32.toNatClampNeg (x3 + (1 : Int32)))) (((Int32.toInt64 (xs (Int32.toNatClampNeg (x3 + (2 : Int32))))) <<< (Int32.toInt64 (32 : Int32) &&& 63)) ||| ((Int32.toInt64 (xs (Int32.toNatClampNeg (x3 + (3 : Int32))))) &&& (4294967295 : Int64))) (((Int32.toInt64 (xs (Int32.toNatClampNeg (x3 + (4 : Int32))))) <<< (Int32.toInt64 (32 : Int32) &&& 63)) ||| ((Int32.toInt64 (xs (Int32.toNatClampNeg (x3 + (5 : Int32))))) &&& (4294967295 : Int64))) (xs (Int32.toNatClampNeg (x3 + (6 : Int32))))).bind fun (I365, r366) =>
  if r361 = r366 then
    let v368 := x3 + (7 : Int32)
    q18 σ I365 J D R x1 x2 v368
  else
    none
  else none
  else none
  else none
  else none
  else none
  else none
  else none
  else none
set_option maxHeartbeats 8000000 in
set_option maxRecDepth 100000 in
theorem wL_law_b2531 {G : Gx} {l : Launch} {xs : Nat → Int32} {Lg : Nat} {σ0 : Shp} {σ : Shp} {I : Nat → Nat → Int32} {J : Nat → Nat → Int64} {D : Nat → Nat → UInt64} {R : Nat → Nat → Option Nat} {q18 : (Shp) → (Nat → Nat → Int32) → (Nat → Nat → Int64) → (Nat → Nat → UInt64) → (Nat → Nat → Option Nat) → (Option Nat) → (Option Nat) → (Int32) → (Option (Unit))} {x1 : Option Nat} {x2 : Option Nat} {x3 : Int32} (hq18 : ∀ (σ : Shp) (I : Nat → Nat → Int32) (J : Nat → Nat → Int64) (D : Nat → Nat → UInt64) (R : Nat → Nat → Option Nat) (x1 : Option Nat) (x2 : Option Nat) (x3 : Int32), q18 σ I J D R x1 x2 x3 = some () → WLaw G l xs Lg σ0 (σ, I, J, D, R) 18 [(0, vR (some 3)), (1, vR x1), (2, vR x2), (3, vI x3)] []) (h : fL_law_b2531 q18 xs Lg σ I J D R x1 x2 x3 = some ()) : WLaw G l xs Lg σ0 (σ, I, J, D, R) 2531 [(0, vR (some 3)), (1, vR x1), (2, vR x2), (3, vI x3)] [] := by
  unfold fL_law_b2531 at h
  refine r_aload_n (pc := 2531) dL_law_2531 rfl 1 rfl ?_
  refine r_aload_n (pc := 2532) dL_law_2532 rfl 0 rfl ?_
  refine r_iload_n (pc := 2533) dL_law_2533 rfl 3 rfl ?_
  refine r_iconst (pc := 2534) dL_law_2534 kc_iconst_1 ?_
  refine r_iadd (pc := 2535) dL_law_2535 ?_
  obtain ⟨g352, h⟩ := gd h
  refine r_scld (pc := 2536) dL_law_2536 g352 ?_
  refine r_aload_n (pc := 2537) dL_law_2537 rfl 0 rfl ?_
  refine r_iload_n (pc := 2538) dL_law_2538 rfl 3 rfl ?_
  refine r_iconst (pc := 2539) dL_law_2539 kc_iconst_2 ?_
  refine r_iadd (pc := 2540) dL_law_2540 ?_
  obtain ⟨g353, h⟩ := gd h
  refine r_scld (pc := 2541) dL_law_2541 g353 ?_
  refine r_i2l (pc := 2542) dL_law_2542 ?_
  refine r_bipush (pc := 2543) dL_law_2543 kc_bipush_32 ?_
  refine r_lshl (pc := 2545) dL_law_2545 ?_
  refine r_aload_n (pc := 2546) dL_law_2546 rfl 0 rfl ?_
  refine r_iload_n (pc := 2547) dL_law_2547 rfl 3 rfl ?_
  refine r_iconst (pc := 2548) dL_law_2548 kc_iconst_3 ?_
  refine r_iadd (pc := 2549) dL_law_2549 ?_
  obtain ⟨g354, h⟩ := gd h
  refine r_scld (pc := 2550) dL_law_2550 g354 ?_
  refine r_i2l (pc := 2551) dL_law_2551 ?_
  refine r_ldc2 (pc := 2552) dL_law_2552 clL_46 ?_
  refine r_land (pc := 2555) dL_law_2555 ?_
  refine r_lor (pc := 2556) dL_law_2556 ?_
  refine r_aload_n (pc := 2557) dL_law_2557 rfl 0 rfl ?_
  refine r_iload_n (pc := 2558) dL_law_2558 rfl 3 rfl ?_
  refine r_iconst (pc := 2559) dL_law_2559 kc_iconst_4 ?_
  refine r_iadd (pc := 2560) dL_law_2560 ?_
  obtain ⟨g355, h⟩ := gd h
  refine r_scld (pc := 2561) dL_law_2561 g355 ?_
  refine r_i2l (pc := 2562) dL_law_2562 ?_
  refine r_bipush (pc := 2563) dL_law_2563 kc_bipush_32 ?_
  refine r_lshl (pc := 2565) dL_law_2565 ?_
  refine r_aload_n (pc := 2566) dL_law_2566 rfl 0 rfl ?_
  refine r_iload_n (pc := 2567) dL_law_2567 rfl 3 rfl ?_
  refine r_iconst (pc := 2568) dL_law_2568 kc_iconst_5 ?_
  refine r_iadd (pc := 2569) dL_law_2569 ?_
  obtain ⟨g356, h⟩ := gd h
  refine r_scld (pc := 2570) dL_law_2570 g356 ?_
  refine r_i2l (pc := 2571) dL_law_2571 ?_
  refine r_ldc2 (pc := 2572) dL_law_2572 clL_46 ?_
  refine r_land (pc := 2575) dL_law_2575 ?_
  refine r_lor (pc := 2576) dL_law_2576 ?_
  refine r_aload_n (pc := 2577) dL_law_2577 rfl 0 rfl ?_
  refine r_iload_n (pc := 2578) dL_law_2578 rfl 3 rfl ?_
  refine r_bipush (pc := 2579) dL_law_2579 kc_bipush_6 ?_
  refine r_iadd (pc := 2581) dL_law_2581 ?_
  obtain ⟨g357, h⟩ := gd h
  refine r_scld (pc := 2582) dL_law_2582 g357 ?_
  obtain ⟨a358, ha358, h⟩ := ob h
  refine r_ref4 ha358 ?_
  obtain ⟨g359, h⟩ := gd h
  obtain ⟨⟨I360, r361⟩, hc362, h⟩ := ob h
  refine r_callV1 (pc := 2583) (av := [vI (xs (Int32.toNatClampNeg (x3 + (1 : Int32)))), vL (((Int32.toInt64 (xs (Int32.toNatClampNeg (x3 + (2 : Int32))))) <<< (Int32.toInt64 (32 : Int32) &&& 63)) ||| ((Int32.toInt64 (xs (Int32.toNatClampNeg (x3 + (3 : Int32))))) &&& (4294967295 : Int64))), vL (((Int32.toInt64 (xs (Int32.toNatClampNeg (x3 + (4 : Int32))))) <<< (Int32.toInt64 (32 : Int32) &&& 63)) ||| ((Int32.toInt64 (xs (Int32.toNatClampNeg (x3 + (5 : Int32))))) &&& (4294967295 : Int64))), vI (xs (Int32.toNatClampNeg (x3 + (6 : Int32))))]) (S := []) dL_law_2583 (kX11_quotient hc362) g359 rfl mkL_245 mwX11_quotient rfl ⟨Nat.le_of_ble_eq_true rfl, Nat.le_of_ble_eq_true rfl⟩ (Nat.le_of_ble_eq_true rfl) ⟨Nat.le_refl _, Nat.le_refl _⟩ (fun b => b) ?_
  refine r_aload_n (pc := 2586) dL_law_2586 rfl 2 rfl ?_
  refine r_aload_n (pc := 2587) dL_law_2587 rfl 0 rfl ?_
  refine r_iload_n (pc := 2588) dL_law_2588 rfl 3 rfl ?_
  refine r_iconst (pc := 2589) dL_law_2589 kc_iconst_1 ?_
  refine r_iadd (pc := 2590) dL_law_2590 ?_
  refine r_scld (pc := 2591) dL_law_2591 g352 ?_
  refine r_aload_n (pc := 2592) dL_law_2592 rfl 0 rfl ?_
  refine r_iload_n (pc := 2593) dL_law_2593 rfl 3 rfl ?_
  refine r_iconst (pc := 2594) dL_law_2594 kc_iconst_2 ?_
  refine r_iadd (pc := 2595) dL_law_2595 ?_
  refine r_scld (pc := 2596) dL_law_2596 g353 ?_
  refine r_i2l (pc := 2597) dL_law_2597 ?_
  refine r_bipush (pc := 2598) dL_law_2598 kc_bipush_32 ?_
  refine r_lshl (pc := 2600) dL_law_2600 ?_
  refine r_aload_n (pc := 2601) dL_law_2601 rfl 0 rfl ?_
  refine r_iload_n (pc := 2602) dL_law_2602 rfl 3 rfl ?_
  refine r_iconst (pc := 2603) dL_law_2603 kc_iconst_3 ?_
  refine r_iadd (pc := 2604) dL_law_2604 ?_
  refine r_scld (pc := 2605) dL_law_2605 g354 ?_
  refine r_i2l (pc := 2606) dL_law_2606 ?_
  refine r_ldc2 (pc := 2607) dL_law_2607 clL_46 ?_
  refine r_land (pc := 2610) dL_law_2610 ?_
  refine r_lor (pc := 2611) dL_law_2611 ?_
  refine r_aload_n (pc := 2612) dL_law_2612 rfl 0 rfl ?_
  refine r_iload_n (pc := 2613) dL_law_2613 rfl 3 rfl ?_
  refine r_iconst (pc := 2614) dL_law_2614 kc_iconst_4 ?_
  refine r_iadd (pc := 2615) dL_law_2615 ?_
  refine r_scld (pc := 2616) dL_law_2616 g355 ?_
  refine r_i2l (pc := 2617) dL_law_2617 ?_
  refine r_bipush (pc := 2618) dL_law_2618 kc_bipush_32 ?_
  refine r_lshl (pc := 2620) dL_law_2620 ?_
  refine r_aload_n (pc := 2621) dL_law_2621 rfl 0 rfl ?_
  refine r_iload_n (pc := 2622) dL_law_2622 rfl 3 rfl ?_
  refine r_iconst (pc := 2623) dL_law_2623 kc_iconst_5 ?_
  refine r_iadd (pc := 2624) dL_law_2624 ?_
  refine r_scld (pc := 2625) dL_law_2625 g356 ?_
  refine r_i2l (pc := 2626) dL_law_2626 ?_
  refine r_ldc2 (pc := 2627) dL_law_2627 clL_46 ?_
  refine r_land (pc := 2630) dL_law_2630 ?_
  refine r_lor (pc := 2631) dL_law_2631 ?_
  refine r_aload_n (pc := 2632) dL_law_2632 rfl 0 rfl ?_
  refine r_iload_n (pc := 2633) dL_law_2633 rfl 3 rfl ?_
  refine r_bipush (pc := 2634) dL_law_2634 kc_bipush_6 ?_
  refine r_iadd (pc := 2636) dL_law_2636 ?_
  refine r_scld (pc := 2637) dL_law_2637 g357 ?_
  obtain ⟨a363, ha363, h⟩ := ob h
  refine r_ref4 ha363 ?_
  obtain ⟨g364, h⟩ := gd h
  obtain ⟨⟨I365, r366⟩, hc367, h⟩ := ob h
  refine r_callV1 (pc := 2638) (av := [vI (xs (Int32.toNatClampNeg (x3 + (1 : Int32)))), vL (((Int32.toInt64 (xs (Int32.toNatClampNeg (x3 + (2 : Int32))))) <<< (Int32.toInt64 (32 : Int32) &&& 63)) ||| ((Int32.toInt64 (xs (Int32.toNatClampNeg (x3 + (3 : Int32))))) &&& (4294967295 : Int64))), vL (((Int32.toInt64 (xs (Int32.toNatClampNeg (x3 + (4 : Int32))))) <<< (Int32.toInt64 (32 : Int32) &&& 63)) ||| ((Int32.toInt64 (xs (Int32.toNatClampNeg (x3 + (5 : Int32))))) &&& (4294967295 : Int64))), vI (xs (Int32.toNatClampNeg (x3 + (6 : Int32))))]) (S := [vL r361]) dL_law_2638 (kX12_quotient hc367) g364 rfl mkL_249 mwX12_quotient rfl ⟨Nat.le_of_ble_eq_true rfl, Nat.le_of_ble_eq_true rfl⟩ (Nat.le_of_ble_eq_true rfl) ⟨Nat.le_refl _, Nat.le_refl _⟩ (fun b => b) ?_
  refine r_lcmp (pc := 2641) dL_law_2641 ?_
  refine r_if_eq (pc := 2642) (tgt := 3270) dL_law_2642 rfl (fun c => ?_) (fun c => ?_)
  · have h := it h (lgc_eq.mp c)
    refine r_iinc (pc := 3270) (v := (x3 + (7 : Int32))) (L' := [(3, vI (x3 + (7 : Int32))), (0, vR (some 3)), (1, vR x1), (2, vR x2)]) dL_law_3270 3 rfl (kc_inc_7 _) (by decide) rfl ?_
    refine r_goto (pc := 3273) (tgt := 18) dL_law_3273 rfl ?_
    refine r_sub [1, 2, 3, 0] rfl ?_
    exact hq18 _ _ _ _ _ _ _ _ h
  · have h := ie h (fun q => c (lgc_eq.mpr q))
    refine r_iconst (pc := 2645) dL_law_2645 kc_iconst_0 ?_
    cases h
def fL_law_b2488 (q18 : (Shp) → (Nat → Nat → Int32) → (Nat → Nat → Int64) → (Nat → Nat → UInt64) → (Nat → Nat → Option Nat) → (Option Nat) → (Option Nat) → (Int32) → (Option (Unit))) (xs : Nat → Int32) (Lg : Nat) (σ : Shp) (I : Nat → Nat → Int32) (J : Nat → Nat → Int64) (D : Nat → Nat → UInt64) (R : Nat → Nat → Option Nat) (x1 : Option Nat) (x2 : Option Nat) (x3 : Int32) : Option Unit :=
  if ¬ ((x3 + (1 : Int32)) < 0 ∨ Lg ≤ Int32.toNatClampNeg (x3 + (1 : Int32))) then
  if ¬ ((x3 + (2 : Int32)) < 0 ∨ Lg ≤ Int32.toNatClampNeg (x3 + (2 : Int32))) then
  if ¬ ((x3 + (3 : Int32)) < 0 ∨ Lg ≤ Int32.toNatClampNeg (x3 + (3 : Int32))) then
  (x1 : Option Nat).bind fun a372 =>
  if kdx σ a372 = 12 then
  (fX11_shares σ I J R a372 (xs (Int32.toNatClampNeg (x3 + (1 : Int32)))) (xs (Int32.toNatClampNeg (x3 + (2 : Int32)))) (xs (Int32.toNatClampNeg (x3 + (3 : Int32))))).bind fun (σ374, I375, J376, R377, r378) =>
  if nxx σ374 ≤ 600000 ∧ slx σ374 ≤ 7300000 then
  (x2 : Option Nat).bind fun a381 =>
  if kdx σ374 a381 = 13 then
  (fX12_shares σ374 I375 J376 R377 a381 (xs (Int32.toNatClampNeg (x3 + (1 : Int32)))) (xs (Int32.toNatClampNeg (x3 + (2 : Int32)))) (xs (Int32.toNatClampNeg (x3 + (3 : Int32))))).bind fun (I383, J384, r385) =>
  if r378 = r385 then
    let v387 := x3 + (7 : Int32)
    q18 σ374 I383 J384 D R377 x1 x2 v387
  else
    none
  else none
  else none
  else none
  else none
  else none
  else none
set_option maxHeartbeats 8000000 in
set_option maxRecDepth 100000 in
theorem wL_law_b2488 {G : Gx} {l : Launch} {xs : Nat → Int32} {Lg : Nat} {σ0 : Shp} {σ : Shp} {I : Nat → Nat → Int32} {J : Nat → Nat → Int64} {D : Nat → Nat → UInt64} {R : Nat → Nat → Option Nat} {q18 : (Shp) → (Nat → Nat → Int32) → (Nat → Nat → Int64) → (Nat → Nat → UInt64) → (Nat → Nat → Option Nat) → (Option Nat) → (Option Nat) → (Int32) → (Option (Unit))} {x1 : Option Nat} {x2 : Option Nat} {x3 : Int32} (hq18 : ∀ (σ : Shp) (I : Nat → Nat → Int32) (J : Nat → Nat → Int64) (D : Nat → Nat → UInt64) (R : Nat → Nat → Option Nat) (x1 : Option Nat) (x2 : Option Nat) (x3 : Int32), q18 σ I J D R x1 x2 x3 = some () → WLaw G l xs Lg σ0 (σ, I, J, D, R) 18 [(0, vR (some 3)), (1, vR x1), (2, vR x2), (3, vI x3)] []) (h : fL_law_b2488 q18 xs Lg σ I J D R x1 x2 x3 = some ()) : WLaw G l xs Lg σ0 (σ, I, J, D, R) 2488 [(0, vR (some 3)), (1, vR x1), (2, vR x2), (3, vI x3)] [] := by
  unfold fL_law_b2488 at h
  refine r_aload_n (pc := 2488) dL_law_2488 rfl 1 rfl ?_
  refine r_aload_n (pc := 2489) dL_law_2489 rfl 0 rfl ?_
  refine r_iload_n (pc := 2490) dL_law_2490 rfl 3 rfl ?_
  refine r_iconst (pc := 2491) dL_law_2491 kc_iconst_1 ?_
  refine r_iadd (pc := 2492) dL_law_2492 ?_
  obtain ⟨g369, h⟩ := gd h
  refine r_scld (pc := 2493) dL_law_2493 g369 ?_
  refine r_aload_n (pc := 2494) dL_law_2494 rfl 0 rfl ?_
  refine r_iload_n (pc := 2495) dL_law_2495 rfl 3 rfl ?_
  refine r_iconst (pc := 2496) dL_law_2496 kc_iconst_2 ?_
  refine r_iadd (pc := 2497) dL_law_2497 ?_
  obtain ⟨g370, h⟩ := gd h
  refine r_scld (pc := 2498) dL_law_2498 g370 ?_
  refine r_aload_n (pc := 2499) dL_law_2499 rfl 0 rfl ?_
  refine r_iload_n (pc := 2500) dL_law_2500 rfl 3 rfl ?_
  refine r_iconst (pc := 2501) dL_law_2501 kc_iconst_3 ?_
  refine r_iadd (pc := 2502) dL_law_2502 ?_
  obtain ⟨g371, h⟩ := gd h
  refine r_scld (pc := 2503) dL_law_2503 g371 ?_
  obtain ⟨a372, ha372, h⟩ := ob h
  refine r_ref3 ha372 ?_
  obtain ⟨g373, h⟩ := gd h
  obtain ⟨⟨σ374, I375, J376, R377, r378⟩, hc379, h⟩ := ob h
  obtain ⟨g380, h⟩ := gd h
  refine r_callV1 (pc := 2504) (av := [vI (xs (Int32.toNatClampNeg (x3 + (1 : Int32)))), vI (xs (Int32.toNatClampNeg (x3 + (2 : Int32)))), vI (xs (Int32.toNatClampNeg (x3 + (3 : Int32))))]) (S := []) dL_law_2504 (kX11_shares hc379) g373 rfl mkL_241 mwX11_shares rfl ⟨Nat.le_of_ble_eq_true rfl, Nat.le_of_ble_eq_true rfl⟩ (Nat.le_of_ble_eq_true rfl) (mX11_shares hc379) (bdL (mX11_shares hc379) g380) ?_
  refine r_aload_n (pc := 2507) dL_law_2507 rfl 2 rfl ?_
  refine r_aload_n (pc := 2508) dL_law_2508 rfl 0 rfl ?_
  refine r_iload_n (pc := 2509) dL_law_2509 rfl 3 rfl ?_
  refine r_iconst (pc := 2510) dL_law_2510 kc_iconst_1 ?_
  refine r_iadd (pc := 2511) dL_law_2511 ?_
  refine r_scld (pc := 2512) dL_law_2512 g369 ?_
  refine r_aload_n (pc := 2513) dL_law_2513 rfl 0 rfl ?_
  refine r_iload_n (pc := 2514) dL_law_2514 rfl 3 rfl ?_
  refine r_iconst (pc := 2515) dL_law_2515 kc_iconst_2 ?_
  refine r_iadd (pc := 2516) dL_law_2516 ?_
  refine r_scld (pc := 2517) dL_law_2517 g370 ?_
  refine r_aload_n (pc := 2518) dL_law_2518 rfl 0 rfl ?_
  refine r_iload_n (pc := 2519) dL_law_2519 rfl 3 rfl ?_
  refine r_iconst (pc := 2520) dL_law_2520 kc_iconst_3 ?_
  refine r_iadd (pc := 2521) dL_law_2521 ?_
  refine r_scld (pc := 2522) dL_law_2522 g371 ?_
  obtain ⟨a381, ha381, h⟩ := ob h
  refine r_ref3 ha381 ?_
  obtain ⟨g382, h⟩ := gd h
  obtain ⟨⟨I383, J384, r385⟩, hc386, h⟩ := ob h
  refine r_callV1 (pc := 2523) (av := [vI (xs (Int32.toNatClampNeg (x3 + (1 : Int32)))), vI (xs (Int32.toNatClampNeg (x3 + (2 : Int32)))), vI (xs (Int32.toNatClampNeg (x3 + (3 : Int32))))]) (S := [vI r378]) dL_law_2523 (kX12_shares hc386) g382 rfl mkL_244 mwX12_shares rfl ⟨Nat.le_of_ble_eq_true rfl, Nat.le_of_ble_eq_true rfl⟩ (Nat.le_of_ble_eq_true rfl) ⟨Nat.le_refl _, Nat.le_refl _⟩ (fun b => b) ?_
  refine r_icmp_eq (pc := 2526) (tgt := 3270) dL_law_2526 rfl (fun c => ?_) (fun c => ?_)
  · have h := it h c
    refine r_iinc (pc := 3270) (v := (x3 + (7 : Int32))) (L' := [(3, vI (x3 + (7 : Int32))), (0, vR (some 3)), (1, vR x1), (2, vR x2)]) dL_law_3270 3 rfl (kc_inc_7 _) (by decide) rfl ?_
    refine r_goto (pc := 3273) (tgt := 18) dL_law_3273 rfl ?_
    refine r_sub [1, 2, 3, 0] rfl ?_
    exact hq18 _ _ _ _ _ _ _ _ h
  · have h := ie h c
    refine r_iconst (pc := 2529) dL_law_2529 kc_iconst_0 ?_
    cases h
def fL_law_b2454 (q18 : (Shp) → (Nat → Nat → Int32) → (Nat → Nat → Int64) → (Nat → Nat → UInt64) → (Nat → Nat → Option Nat) → (Option Nat) → (Option Nat) → (Int32) → (Option (Unit))) (xs : Nat → Int32) (Lg : Nat) (σ : Shp) (I : Nat → Nat → Int32) (J : Nat → Nat → Int64) (D : Nat → Nat → UInt64) (R : Nat → Nat → Option Nat) (x1 : Option Nat) (x2 : Option Nat) (x3 : Int32) : Option Unit :=
  if ¬ ((x3 + (1 : Int32)) < 0 ∨ Lg ≤ Int32.toNatClampNeg (x3 + (1 : Int32))) then
  if ¬ ((x3 + (2 : Int32)) < 0 ∨ Lg ≤ Int32.toNatClampNeg (x3 + (2 : Int32))) then
  (x1 : Option Nat).bind fun a390 =>
  if kdx σ a390 = 12 then
  (fX11_air σ J R a390 (xs (Int32.toNatClampNeg (x3 + (1 : Int32)))) (xs (Int32.toNatClampNeg (x3 + (2 : Int32))))).bind fun r392 =>
  (x2 : Option Nat).bind fun a394 =>
  if kdx σ a394 = 13 then
  (fX12_air σ I J R a394 (xs (Int32.toNatClampNeg (x3 + (1 : Int32)))) (xs (Int32.toNatClampNeg (x3 + (2 : Int32))))).bind fun r396 =>
  if r392 = r396 then
    let v398 := x3 + (7 : Int32)
    q18 σ I J D R x1 x2 v398
  else
    none
  else none
  else none
  else none
  else none
set_option maxHeartbeats 8000000 in
set_option maxRecDepth 100000 in
theorem wL_law_b2454 {G : Gx} {l : Launch} {xs : Nat → Int32} {Lg : Nat} {σ0 : Shp} {σ : Shp} {I : Nat → Nat → Int32} {J : Nat → Nat → Int64} {D : Nat → Nat → UInt64} {R : Nat → Nat → Option Nat} {q18 : (Shp) → (Nat → Nat → Int32) → (Nat → Nat → Int64) → (Nat → Nat → UInt64) → (Nat → Nat → Option Nat) → (Option Nat) → (Option Nat) → (Int32) → (Option (Unit))} {x1 : Option Nat} {x2 : Option Nat} {x3 : Int32} (hq18 : ∀ (σ : Shp) (I : Nat → Nat → Int32) (J : Nat → Nat → Int64) (D : Nat → Nat → UInt64) (R : Nat → Nat → Option Nat) (x1 : Option Nat) (x2 : Option Nat) (x3 : Int32), q18 σ I J D R x1 x2 x3 = some () → WLaw G l xs Lg σ0 (σ, I, J, D, R) 18 [(0, vR (some 3)), (1, vR x1), (2, vR x2), (3, vI x3)] []) (h : fL_law_b2454 q18 xs Lg σ I J D R x1 x2 x3 = some ()) : WLaw G l xs Lg σ0 (σ, I, J, D, R) 2454 [(0, vR (some 3)), (1, vR x1), (2, vR x2), (3, vI x3)] [] := by
  unfold fL_law_b2454 at h
  refine r_aload_n (pc := 2454) dL_law_2454 rfl 1 rfl ?_
  refine r_aload_n (pc := 2455) dL_law_2455 rfl 0 rfl ?_
  refine r_iload_n (pc := 2456) dL_law_2456 rfl 3 rfl ?_
  refine r_iconst (pc := 2457) dL_law_2457 kc_iconst_1 ?_
  refine r_iadd (pc := 2458) dL_law_2458 ?_
  obtain ⟨g388, h⟩ := gd h
  refine r_scld (pc := 2459) dL_law_2459 g388 ?_
  refine r_aload_n (pc := 2460) dL_law_2460 rfl 0 rfl ?_
  refine r_iload_n (pc := 2461) dL_law_2461 rfl 3 rfl ?_
  refine r_iconst (pc := 2462) dL_law_2462 kc_iconst_2 ?_
  refine r_iadd (pc := 2463) dL_law_2463 ?_
  obtain ⟨g389, h⟩ := gd h
  refine r_scld (pc := 2464) dL_law_2464 g389 ?_
  obtain ⟨a390, ha390, h⟩ := ob h
  refine r_ref2 ha390 ?_
  obtain ⟨g391, h⟩ := gd h
  obtain ⟨r392, hc393, h⟩ := ob h
  refine r_callV1 (pc := 2465) (av := [vI (xs (Int32.toNatClampNeg (x3 + (1 : Int32)))), vI (xs (Int32.toNatClampNeg (x3 + (2 : Int32))))]) (S := []) dL_law_2465 (kX11_air hc393) g391 rfl mkL_237 mwX11_air rfl ⟨Nat.le_of_ble_eq_true rfl, Nat.le_of_ble_eq_true rfl⟩ (Nat.le_of_ble_eq_true rfl) ⟨Nat.le_refl _, Nat.le_refl _⟩ (fun b => b) ?_
  refine r_aload_n (pc := 2468) dL_law_2468 rfl 2 rfl ?_
  refine r_aload_n (pc := 2469) dL_law_2469 rfl 0 rfl ?_
  refine r_iload_n (pc := 2470) dL_law_2470 rfl 3 rfl ?_
  refine r_iconst (pc := 2471) dL_law_2471 kc_iconst_1 ?_
  refine r_iadd (pc := 2472) dL_law_2472 ?_
  refine r_scld (pc := 2473) dL_law_2473 g388 ?_
  refine r_aload_n (pc := 2474) dL_law_2474 rfl 0 rfl ?_
  refine r_iload_n (pc := 2475) dL_law_2475 rfl 3 rfl ?_
  refine r_iconst (pc := 2476) dL_law_2476 kc_iconst_2 ?_
  refine r_iadd (pc := 2477) dL_law_2477 ?_
  refine r_scld (pc := 2478) dL_law_2478 g389 ?_
  obtain ⟨a394, ha394, h⟩ := ob h
  refine r_ref2 ha394 ?_
  obtain ⟨g395, h⟩ := gd h
  obtain ⟨r396, hc397, h⟩ := ob h
  refine r_callV1 (pc := 2479) (av := [vI (xs (Int32.toNatClampNeg (x3 + (1 : Int32)))), vI (xs (Int32.toNatClampNeg (x3 + (2 : Int32))))]) (S := [vL r392]) dL_law_2479 (kX12_air hc397) g395 rfl mkL_240 mwX12_air rfl ⟨Nat.le_of_ble_eq_true rfl, Nat.le_of_ble_eq_true rfl⟩ (Nat.le_of_ble_eq_true rfl) ⟨Nat.le_refl _, Nat.le_refl _⟩ (fun b => b) ?_
  refine r_lcmp (pc := 2482) dL_law_2482 ?_
  refine r_if_eq (pc := 2483) (tgt := 3270) dL_law_2483 rfl (fun c => ?_) (fun c => ?_)
  · have h := it h (lgc_eq.mp c)
    refine r_iinc (pc := 3270) (v := (x3 + (7 : Int32))) (L' := [(3, vI (x3 + (7 : Int32))), (0, vR (some 3)), (1, vR x1), (2, vR x2)]) dL_law_3270 3 rfl (kc_inc_7 _) (by decide) rfl ?_
    refine r_goto (pc := 3273) (tgt := 18) dL_law_3273 rfl ?_
    refine r_sub [1, 2, 3, 0] rfl ?_
    exact hq18 _ _ _ _ _ _ _ _ h
  · have h := ie h (fun q => c (lgc_eq.mpr q))
    refine r_iconst (pc := 2486) dL_law_2486 kc_iconst_0 ?_
    cases h
def fL_law_b2431 (q18 : (Shp) → (Nat → Nat → Int32) → (Nat → Nat → Int64) → (Nat → Nat → UInt64) → (Nat → Nat → Option Nat) → (Option Nat) → (Option Nat) → (Int32) → (Option (Unit))) (xs : Nat → Int32) (Lg : Nat) (σ : Shp) (I : Nat → Nat → Int32) (J : Nat → Nat → Int64) (D : Nat → Nat → UInt64) (R : Nat → Nat → Option Nat) (x1 : Option Nat) (x2 : Option Nat) (x3 : Int32) : Option Unit :=
  if ¬ ((x3 + (1 : Int32)) < 0 ∨ Lg ≤ Int32.toNatClampNeg (x3 + (1 : Int32))) then
  (x1 : Option Nat).bind fun a400 =>
  if kdx σ a400 = 12 then
  (fX11_minute σ I J D R a400 (xs (Int32.toNatClampNeg (x3 + (1 : Int32))))).bind fun (I402, J403, r404) =>
  (x2 : Option Nat).bind fun a406 =>
  if kdx σ a406 = 13 then
  (fX12_minute σ I402 J403 D R a406 (xs (Int32.toNatClampNeg (x3 + (1 : Int32))))).bind fun (I408, J409, r410) =>
  if r404 = r410 then
    let v412 := x3 + (7 : Int32)
    q18 σ I408 J409 D R x1 x2 v412
  else
    none
  else none
  else none
  else none
set_option maxHeartbeats 8000000 in
set_option maxRecDepth 100000 in
theorem wL_law_b2431 {G : Gx} {l : Launch} {xs : Nat → Int32} {Lg : Nat} {σ0 : Shp} {σ : Shp} {I : Nat → Nat → Int32} {J : Nat → Nat → Int64} {D : Nat → Nat → UInt64} {R : Nat → Nat → Option Nat} {q18 : (Shp) → (Nat → Nat → Int32) → (Nat → Nat → Int64) → (Nat → Nat → UInt64) → (Nat → Nat → Option Nat) → (Option Nat) → (Option Nat) → (Int32) → (Option (Unit))} {x1 : Option Nat} {x2 : Option Nat} {x3 : Int32} (hq18 : ∀ (σ : Shp) (I : Nat → Nat → Int32) (J : Nat → Nat → Int64) (D : Nat → Nat → UInt64) (R : Nat → Nat → Option Nat) (x1 : Option Nat) (x2 : Option Nat) (x3 : Int32), q18 σ I J D R x1 x2 x3 = some () → WLaw G l xs Lg σ0 (σ, I, J, D, R) 18 [(0, vR (some 3)), (1, vR x1), (2, vR x2), (3, vI x3)] []) (h : fL_law_b2431 q18 xs Lg σ I J D R x1 x2 x3 = some ()) : WLaw G l xs Lg σ0 (σ, I, J, D, R) 2431 [(0, vR (some 3)), (1, vR x1), (2, vR x2), (3, vI x3)] [] := by
  unfold fL_law_b2431 at h
  refine r_aload_n (pc := 2431) dL_law_2431 rfl 1 rfl ?_
  refine r_aload_n (pc := 2432) dL_law_2432 rfl 0 rfl ?_
  refine r_iload_n (pc := 2433) dL_law_2433 rfl 3 rfl ?_
  refine r_iconst (pc := 2434) dL_law_2434 kc_iconst_1 ?_
  refine r_iadd (pc := 2435) dL_law_2435 ?_
  obtain ⟨g399, h⟩ := gd h
  refine r_scld (pc := 2436) dL_law_2436 g399 ?_
  obtain ⟨a400, ha400, h⟩ := ob h
  refine r_ref1 ha400 ?_
  obtain ⟨g401, h⟩ := gd h
  obtain ⟨⟨I402, J403, r404⟩, hc405, h⟩ := ob h
  refine r_callV1 (pc := 2437) (av := [vI (xs (Int32.toNatClampNeg (x3 + (1 : Int32))))]) (S := []) dL_law_2437 (kX11_minute hc405) g401 rfl mkL_233 mwX11_minute rfl ⟨Nat.le_of_ble_eq_true rfl, Nat.le_of_ble_eq_true rfl⟩ (Nat.le_of_ble_eq_true rfl) ⟨Nat.le_refl _, Nat.le_refl _⟩ (fun b => b) ?_
  refine r_aload_n (pc := 2440) dL_law_2440 rfl 2 rfl ?_
  refine r_aload_n (pc := 2441) dL_law_2441 rfl 0 rfl ?_
  refine r_iload_n (pc := 2442) dL_law_2442 rfl 3 rfl ?_
  refine r_iconst (pc := 2443) dL_law_2443 kc_iconst_1 ?_
  refine r_iadd (pc := 2444) dL_law_2444 ?_
  refine r_scld (pc := 2445) dL_law_2445 g399 ?_
  obtain ⟨a406, ha406, h⟩ := ob h
  refine r_ref1 ha406 ?_
  obtain ⟨g407, h⟩ := gd h
  obtain ⟨⟨I408, J409, r410⟩, hc411, h⟩ := ob h
  refine r_callV1 (pc := 2446) (av := [vI (xs (Int32.toNatClampNeg (x3 + (1 : Int32))))]) (S := [vI r404]) dL_law_2446 (kX12_minute hc411) g407 rfl mkL_236 mwX12_minute rfl ⟨Nat.le_of_ble_eq_true rfl, Nat.le_of_ble_eq_true rfl⟩ (Nat.le_of_ble_eq_true rfl) ⟨Nat.le_refl _, Nat.le_refl _⟩ (fun b => b) ?_
  refine r_icmp_eq (pc := 2449) (tgt := 3270) dL_law_2449 rfl (fun c => ?_) (fun c => ?_)
  · have h := it h c
    refine r_iinc (pc := 3270) (v := (x3 + (7 : Int32))) (L' := [(3, vI (x3 + (7 : Int32))), (0, vR (some 3)), (1, vR x1), (2, vR x2)]) dL_law_3270 3 rfl (kc_inc_7 _) (by decide) rfl ?_
    refine r_goto (pc := 3273) (tgt := 18) dL_law_3273 rfl ?_
    refine r_sub [1, 2, 3, 0] rfl ?_
    exact hq18 _ _ _ _ _ _ _ _ h
  · have h := ie h c
    refine r_iconst (pc := 2452) dL_law_2452 kc_iconst_0 ?_
    cases h
def fL_law_b2398 (q18 : (Shp) → (Nat → Nat → Int32) → (Nat → Nat → Int64) → (Nat → Nat → UInt64) → (Nat → Nat → Option Nat) → (Option Nat) → (Option Nat) → (Int32) → (Option (Unit))) (xs : Nat → Int32) (Lg : Nat) (σ : Shp) (I : Nat → Nat → Int32) (J : Nat → Nat → Int64) (D : Nat → Nat → UInt64) (R : Nat → Nat → Option Nat) (x1 : Option Nat) (x2 : Option Nat) (x3 : Int32) : Option Unit :=
  if ¬ ((x3 + (1 : Int32)) < 0 ∨ Lg ≤ Int32.toNatClampNeg (x3 + (1 : Int32))) then
  if ¬ ((x3 + (2 : Int32)) < 0 ∨ Lg ≤ Int32.toNatClampNeg (x3 + (2 : Int32))) then
  (x1 : Option Nat).bind fun a415 =>
  if kdx σ a415 = 12 then
  (fX11_wish σ I R a415 (xs (Int32.toNatClampNeg (x3 + (1 : Int32)))) (xs (Int32.toNatClampNeg (x3 + (2 : Int32))))).bind fun r417 =>
  (x2 : Option Nat).bind fun a419 =>
  if kdx σ a419 = 13 then
  (fX12_wish σ I R a419 (xs (Int32.toNatClampNeg (x3 + (1 : Int32)))) (xs (Int32.toNatClampNeg (x3 + (2 : Int32))))).bind fun r421 =>
  if r417 = r421 then
    let v423 := x3 + (7 : Int32)
    q18 σ I J D R x1 x2 v423
  else
    none
  else none
  else none
  else none
  else none
set_option maxHeartbeats 8000000 in
set_option maxRecDepth 100000 in
theorem wL_law_b2398 {G : Gx} {l : Launch} {xs : Nat → Int32} {Lg : Nat} {σ0 : Shp} {σ : Shp} {I : Nat → Nat → Int32} {J : Nat → Nat → Int64} {D : Nat → Nat → UInt64} {R : Nat → Nat → Option Nat} {q18 : (Shp) → (Nat → Nat → Int32) → (Nat → Nat → Int64) → (Nat → Nat → UInt64) → (Nat → Nat → Option Nat) → (Option Nat) → (Option Nat) → (Int32) → (Option (Unit))} {x1 : Option Nat} {x2 : Option Nat} {x3 : Int32} (hq18 : ∀ (σ : Shp) (I : Nat → Nat → Int32) (J : Nat → Nat → Int64) (D : Nat → Nat → UInt64) (R : Nat → Nat → Option Nat) (x1 : Option Nat) (x2 : Option Nat) (x3 : Int32), q18 σ I J D R x1 x2 x3 = some () → WLaw G l xs Lg σ0 (σ, I, J, D, R) 18 [(0, vR (some 3)), (1, vR x1), (2, vR x2), (3, vI x3)] []) (h : fL_law_b2398 q18 xs Lg σ I J D R x1 x2 x3 = some ()) : WLaw G l xs Lg σ0 (σ, I, J, D, R) 2398 [(0, vR (some 3)), (1, vR x1), (2, vR x2), (3, vI x3)] [] := by
  unfold fL_law_b2398 at h
  refine r_aload_n (pc := 2398) dL_law_2398 rfl 1 rfl ?_
  refine r_aload_n (pc := 2399) dL_law_2399 rfl 0 rfl ?_
  refine r_iload_n (pc := 2400) dL_law_2400 rfl 3 rfl ?_
  refine r_iconst (pc := 2401) dL_law_2401 kc_iconst_1 ?_
  refine r_iadd (pc := 2402) dL_law_2402 ?_
  obtain ⟨g413, h⟩ := gd h
  refine r_scld (pc := 2403) dL_law_2403 g413 ?_
  refine r_aload_n (pc := 2404) dL_law_2404 rfl 0 rfl ?_
  refine r_iload_n (pc := 2405) dL_law_2405 rfl 3 rfl ?_
  refine r_iconst (pc := 2406) dL_law_2406 kc_iconst_2 ?_
  refine r_iadd (pc := 2407) dL_law_2407 ?_
  obtain ⟨g414, h⟩ := gd h
  refine r_scld (pc := 2408) dL_law_2408 g414 ?_
  obtain ⟨a415, ha415, h⟩ := ob h
  refine r_ref2 ha415 ?_
  obtain ⟨g416, h⟩ := gd h
  obtain ⟨r417, hc418, h⟩ := ob h
  refine r_callV1 (pc := 2409) (av := [vI (xs (Int32.toNatClampNeg (x3 + (1 : Int32)))), vI (xs (Int32.toNatClampNeg (x3 + (2 : Int32))))]) (S := []) dL_law_2409 (kX11_wish hc418) g416 rfl mkL_229 mwX11_wish rfl ⟨Nat.le_of_ble_eq_true rfl, Nat.le_of_ble_eq_true rfl⟩ (Nat.le_of_ble_eq_true rfl) ⟨Nat.le_refl _, Nat.le_refl _⟩ (fun b => b) ?_
  refine r_aload_n (pc := 2412) dL_law_2412 rfl 2 rfl ?_
  refine r_aload_n (pc := 2413) dL_law_2413 rfl 0 rfl ?_
  refine r_iload_n (pc := 2414) dL_law_2414 rfl 3 rfl ?_
  refine r_iconst (pc := 2415) dL_law_2415 kc_iconst_1 ?_
  refine r_iadd (pc := 2416) dL_law_2416 ?_
  refine r_scld (pc := 2417) dL_law_2417 g413 ?_
  refine r_aload_n (pc := 2418) dL_law_2418 rfl 0 rfl ?_
  refine r_iload_n (pc := 2419) dL_law_2419 rfl 3 rfl ?_
  refine r_iconst (pc := 2420) dL_law_2420 kc_iconst_2 ?_
  refine r_iadd (pc := 2421) dL_law_2421 ?_
  refine r_scld (pc := 2422) dL_law_2422 g414 ?_
  obtain ⟨a419, ha419, h⟩ := ob h
  refine r_ref2 ha419 ?_
  obtain ⟨g420, h⟩ := gd h
  obtain ⟨r421, hc422, h⟩ := ob h
  refine r_callV1 (pc := 2423) (av := [vI (xs (Int32.toNatClampNeg (x3 + (1 : Int32)))), vI (xs (Int32.toNatClampNeg (x3 + (2 : Int32))))]) (S := [vI r417]) dL_law_2423 (kX12_wish hc422) g420 rfl mkL_232 mwX12_wish rfl ⟨Nat.le_of_ble_eq_true rfl, Nat.le_of_ble_eq_true rfl⟩ (Nat.le_of_ble_eq_true rfl) ⟨Nat.le_refl _, Nat.le_refl _⟩ (fun b => b) ?_
  refine r_icmp_eq (pc := 2426) (tgt := 3270) dL_law_2426 rfl (fun c => ?_) (fun c => ?_)
  · have h := it h c
    refine r_iinc (pc := 3270) (v := (x3 + (7 : Int32))) (L' := [(3, vI (x3 + (7 : Int32))), (0, vR (some 3)), (1, vR x1), (2, vR x2)]) dL_law_3270 3 rfl (kc_inc_7 _) (by decide) rfl ?_
    refine r_goto (pc := 3273) (tgt := 18) dL_law_3273 rfl ?_
    refine r_sub [1, 2, 3, 0] rfl ?_
    exact hq18 _ _ _ _ _ _ _ _ h
  · have h := ie h c
    refine r_iconst (pc := 2429) dL_law_2429 kc_iconst_0 ?_
    cases h
def fL_law_b2375 (q18 : (Shp) → (Nat → Nat → Int32) → (Nat → Nat → Int64) → (Nat → Nat → UInt64) → (Nat → Nat → Option Nat) → (Option Nat) → (Option Nat) → (Int32) → (Option (Unit))) (xs : Nat → Int32) (Lg : Nat) (σ : Shp) (I : Nat → Nat → Int32) (J : Nat → Nat → Int64) (D : Nat → Nat → UInt64) (R : Nat → Nat → Option Nat) (x1 : Option Nat) (x2 : Option Nat) (x3 : Int32) : Option Unit :=
  if ¬ ((x3 + (1 : Int32)) < 0 ∨ Lg ≤ Int32.toNatClampNeg (x3 + (1 : Int32))) then
  (x1 : Option Nat).bind fun a425 =>
  if kdx σ a425 = 12 then
  (fX11_unmark σ I R a425 (xs (Int32.toNatClampNeg (x3 + (1 : Int32))))).bind fun (I427, r428) =>
  (x2 : Option Nat).bind fun a430 =>
  if kdx σ a430 = 13 then
  (fX12_unmark σ I427 R a430 (xs (Int32.toNatClampNeg (x3 + (1 : Int32))))).bind fun (I432, r433) =>
  if r428 = r433 then
    let v435 := x3 + (7 : Int32)
    q18 σ I432 J D R x1 x2 v435
  else
    none
  else none
  else none
  else none
set_option maxHeartbeats 8000000 in
set_option maxRecDepth 100000 in
theorem wL_law_b2375 {G : Gx} {l : Launch} {xs : Nat → Int32} {Lg : Nat} {σ0 : Shp} {σ : Shp} {I : Nat → Nat → Int32} {J : Nat → Nat → Int64} {D : Nat → Nat → UInt64} {R : Nat → Nat → Option Nat} {q18 : (Shp) → (Nat → Nat → Int32) → (Nat → Nat → Int64) → (Nat → Nat → UInt64) → (Nat → Nat → Option Nat) → (Option Nat) → (Option Nat) → (Int32) → (Option (Unit))} {x1 : Option Nat} {x2 : Option Nat} {x3 : Int32} (hq18 : ∀ (σ : Shp) (I : Nat → Nat → Int32) (J : Nat → Nat → Int64) (D : Nat → Nat → UInt64) (R : Nat → Nat → Option Nat) (x1 : Option Nat) (x2 : Option Nat) (x3 : Int32), q18 σ I J D R x1 x2 x3 = some () → WLaw G l xs Lg σ0 (σ, I, J, D, R) 18 [(0, vR (some 3)), (1, vR x1), (2, vR x2), (3, vI x3)] []) (h : fL_law_b2375 q18 xs Lg σ I J D R x1 x2 x3 = some ()) : WLaw G l xs Lg σ0 (σ, I, J, D, R) 2375 [(0, vR (some 3)), (1, vR x1), (2, vR x2), (3, vI x3)] [] := by
  unfold fL_law_b2375 at h
  refine r_aload_n (pc := 2375) dL_law_2375 rfl 1 rfl ?_
  refine r_aload_n (pc := 2376) dL_law_2376 rfl 0 rfl ?_
  refine r_iload_n (pc := 2377) dL_law_2377 rfl 3 rfl ?_
  refine r_iconst (pc := 2378) dL_law_2378 kc_iconst_1 ?_
  refine r_iadd (pc := 2379) dL_law_2379 ?_
  obtain ⟨g424, h⟩ := gd h
  refine r_scld (pc := 2380) dL_law_2380 g424 ?_
  obtain ⟨a425, ha425, h⟩ := ob h
  refine r_ref1 ha425 ?_
  obtain ⟨g426, h⟩ := gd h
  obtain ⟨⟨I427, r428⟩, hc429, h⟩ := ob h
  refine r_callV1 (pc := 2381) (av := [vI (xs (Int32.toNatClampNeg (x3 + (1 : Int32))))]) (S := []) dL_law_2381 (kX11_unmark hc429) g426 rfl mkL_225 mwX11_unmark rfl ⟨Nat.le_of_ble_eq_true rfl, Nat.le_of_ble_eq_true rfl⟩ (Nat.le_of_ble_eq_true rfl) ⟨Nat.le_refl _, Nat.le_refl _⟩ (fun b => b) ?_
  refine r_aload_n (pc := 2384) dL_law_2384 rfl 2 rfl ?_
  refine r_aload_n (pc := 2385) dL_law_2385 rfl 0 rfl ?_
  refine r_iload_n (pc := 2386) dL_law_2386 rfl 3 rfl ?_
  refine r_iconst (pc := 2387) dL_law_2387 kc_iconst_1 ?_
  refine r_iadd (pc := 2388) dL_law_2388 ?_
  refine r_scld (pc := 2389) dL_law_2389 g424 ?_
  obtain ⟨a430, ha430, h⟩ := ob h
  refine r_ref1 ha430 ?_
  obtain ⟨g431, h⟩ := gd h
  obtain ⟨⟨I432, r433⟩, hc434, h⟩ := ob h
  refine r_callV1 (pc := 2390) (av := [vI (xs (Int32.toNatClampNeg (x3 + (1 : Int32))))]) (S := [vI r428]) dL_law_2390 (kX12_unmark hc434) g431 rfl mkL_228 mwX12_unmark rfl ⟨Nat.le_of_ble_eq_true rfl, Nat.le_of_ble_eq_true rfl⟩ (Nat.le_of_ble_eq_true rfl) ⟨Nat.le_refl _, Nat.le_refl _⟩ (fun b => b) ?_
  refine r_icmp_eq (pc := 2393) (tgt := 3270) dL_law_2393 rfl (fun c => ?_) (fun c => ?_)
  · have h := it h c
    refine r_iinc (pc := 3270) (v := (x3 + (7 : Int32))) (L' := [(3, vI (x3 + (7 : Int32))), (0, vR (some 3)), (1, vR x1), (2, vR x2)]) dL_law_3270 3 rfl (kc_inc_7 _) (by decide) rfl ?_
    refine r_goto (pc := 3273) (tgt := 18) dL_law_3273 rfl ?_
    refine r_sub [1, 2, 3, 0] rfl ?_
    exact hq18 _ _ _ _ _ _ _ _ h
  · have h := ie h c
    refine r_iconst (pc := 2396) dL_law_2396 kc_iconst_0 ?_
    cases h
def fL_law_b2332 (q18 : (Shp) → (Nat → Nat → Int32) → (Nat → Nat → Int64) → (Nat → Nat → UInt64) → (Nat → Nat → Option Nat) → (Option Nat) → (Option Nat) → (Int32) → (Option (Unit))) (xs : Nat → Int32) (Lg : Nat) (σ : Shp) (I : Nat → Nat → Int32) (J : Nat → Nat → Int64) (D : Nat → Nat → UInt64) (R : Nat → Nat → Option Nat) (x1 : Option Nat) (x2 : Option Nat) (x3 : Int32) : Option Unit :=
  if ¬ ((x3 + (1 : Int32)) < 0 ∨ Lg ≤ Int32.toNatClampNeg (x3 + (1 : Int32))) then
  if ¬ ((x3 + (2 : Int32)) < 0 ∨ Lg ≤ Int32.toNatClampNeg (x3 + (2 : Int32))) then
  if ¬ ((x3 + (3 : Int32)) < 0 ∨ Lg ≤ Int32.toNatClampNeg (x3 + (3 : Int32))) then
  (x1 : Option Nat).bind fun a439 =>
  if kdx σ a439 = 12 then
  (fX11_mark σ I R a439 (xs (Int32.toNatClampNeg (x3 + (1 : Int32)))) (xs (Int32.toNatClampNeg (x3 + (2 : Int32)))) (xs (Int32.toNatClampNeg (x3 + (3 : Int32))))).bind fun (I441, r442) =>
  (x2 : Option Nat).bind fun a444 =>
  if kdx σ a444 = 13 then
  (fX12_mark σ I441 R a444 (xs (Int32.toNatClampNeg (x3 + (1 : Int32)))) (xs (Int32.toNatClampNeg (x3 + (2 : Int32)))) (xs (Int32.toNatClampNeg (x3 + (3 : Int32))))).bind fun (I446, r447) =>
  if r442 = r447 then
    let v449 := x3 + (7 : Int32)
    q18 σ I446 J D R x1 x2 v449
  else
    none
  else none
  else none
  else none
  else none
  else none
set_option maxHeartbeats 8000000 in
set_option maxRecDepth 100000 in
theorem wL_law_b2332 {G : Gx} {l : Launch} {xs : Nat → Int32} {Lg : Nat} {σ0 : Shp} {σ : Shp} {I : Nat → Nat → Int32} {J : Nat → Nat → Int64} {D : Nat → Nat → UInt64} {R : Nat → Nat → Option Nat} {q18 : (Shp) → (Nat → Nat → Int32) → (Nat → Nat → Int64) → (Nat → Nat → UInt64) → (Nat → Nat → Option Nat) → (Option Nat) → (Option Nat) → (Int32) → (Option (Unit))} {x1 : Option Nat} {x2 : Option Nat} {x3 : Int32} (hq18 : ∀ (σ : Shp) (I : Nat → Nat → Int32) (J : Nat → Nat → Int64) (D : Nat → Nat → UInt64) (R : Nat → Nat → Option Nat) (x1 : Option Nat) (x2 : Option Nat) (x3 : Int32), q18 σ I J D R x1 x2 x3 = some () → WLaw G l xs Lg σ0 (σ, I, J, D, R) 18 [(0, vR (some 3)), (1, vR x1), (2, vR x2), (3, vI x3)] []) (h : fL_law_b2332 q18 xs Lg σ I J D R x1 x2 x3 = some ()) : WLaw G l xs Lg σ0 (σ, I, J, D, R) 2332 [(0, vR (some 3)), (1, vR x1), (2, vR x2), (3, vI x3)] [] := by
  unfold fL_law_b2332 at h
  refine r_aload_n (pc := 2332) dL_law_2332 rfl 1 rfl ?_
  refine r_aload_n (pc := 2333) dL_law_2333 rfl 0 rfl ?_
  refine r_iload_n (pc := 2334) dL_law_2334 rfl 3 rfl ?_
  refine r_iconst (pc := 2335) dL_law_2335 kc_iconst_1 ?_
  refine r_iadd (pc := 2336) dL_law_2336 ?_
  obtain ⟨g436, h⟩ := gd h
  refine r_scld (pc := 2337) dL_law_2337 g436 ?_
  refine r_aload_n (pc := 2338) dL_law_2338 rfl 0 rfl ?_
  refine r_iload_n (pc := 2339) dL_law_2339 rfl 3 rfl ?_
  refine r_iconst (pc := 2340) dL_law_2340 kc_iconst_2 ?_
  refine r_iadd (pc := 2341) dL_law_2341 ?_
  obtain ⟨g437, h⟩ := gd h
  refine r_scld (pc := 2342) dL_law_2342 g437 ?_
  refine r_aload_n (pc := 2343) dL_law_2343 rfl 0 rfl ?_
  refine r_iload_n (pc := 2344) dL_law_2344 rfl 3 rfl ?_
  refine r_iconst (pc := 2345) dL_law_2345 kc_iconst_3 ?_
  refine r_iadd (pc := 2346) dL_law_2346 ?_
  obtain ⟨g438, h⟩ := gd h
  refine r_scld (pc := 2347) dL_law_2347 g438 ?_
  obtain ⟨a439, ha439, h⟩ := ob h
  refine r_ref3 ha439 ?_
  obtain ⟨g440, h⟩ := gd h
  obtain ⟨⟨I441, r442⟩, hc443, h⟩ := ob h
  refine r_callV1 (pc := 2348) (av := [vI (xs (Int32.toNatClampNeg (x3 + (1 : Int32)))), vI (xs (Int32.toNatClampNeg (x3 + (2 : Int32)))), vI (xs (Int32.toNatClampNeg (x3 + (3 : Int32))))]) (S := []) dL_law_2348 (kX11_mark hc443) g440 rfl mkL_221 mwX11_mark rfl ⟨Nat.le_of_ble_eq_true rfl, Nat.le_of_ble_eq_true rfl⟩ (Nat.le_of_ble_eq_true rfl) ⟨Nat.le_refl _, Nat.le_refl _⟩ (fun b => b) ?_
  refine r_aload_n (pc := 2351) dL_law_2351 rfl 2 rfl ?_
  refine r_aload_n (pc := 2352) dL_law_2352 rfl 0 rfl ?_
  refine r_iload_n (pc := 2353) dL_law_2353 rfl 3 rfl ?_
  refine r_iconst (pc := 2354) dL_law_2354 kc_iconst_1 ?_
  refine r_iadd (pc := 2355) dL_law_2355 ?_
  refine r_scld (pc := 2356) dL_law_2356 g436 ?_
  refine r_aload_n (pc := 2357) dL_law_2357 rfl 0 rfl ?_
  refine r_iload_n (pc := 2358) dL_law_2358 rfl 3 rfl ?_
  refine r_iconst (pc := 2359) dL_law_2359 kc_iconst_2 ?_
  refine r_iadd (pc := 2360) dL_law_2360 ?_
  refine r_scld (pc := 2361) dL_law_2361 g437 ?_
  refine r_aload_n (pc := 2362) dL_law_2362 rfl 0 rfl ?_
  refine r_iload_n (pc := 2363) dL_law_2363 rfl 3 rfl ?_
  refine r_iconst (pc := 2364) dL_law_2364 kc_iconst_3 ?_
  refine r_iadd (pc := 2365) dL_law_2365 ?_
  refine r_scld (pc := 2366) dL_law_2366 g438 ?_
  obtain ⟨a444, ha444, h⟩ := ob h
  refine r_ref3 ha444 ?_
  obtain ⟨g445, h⟩ := gd h
  obtain ⟨⟨I446, r447⟩, hc448, h⟩ := ob h
  refine r_callV1 (pc := 2367) (av := [vI (xs (Int32.toNatClampNeg (x3 + (1 : Int32)))), vI (xs (Int32.toNatClampNeg (x3 + (2 : Int32)))), vI (xs (Int32.toNatClampNeg (x3 + (3 : Int32))))]) (S := [vI r442]) dL_law_2367 (kX12_mark hc448) g445 rfl mkL_224 mwX12_mark rfl ⟨Nat.le_of_ble_eq_true rfl, Nat.le_of_ble_eq_true rfl⟩ (Nat.le_of_ble_eq_true rfl) ⟨Nat.le_refl _, Nat.le_refl _⟩ (fun b => b) ?_
  refine r_icmp_eq (pc := 2370) (tgt := 3270) dL_law_2370 rfl (fun c => ?_) (fun c => ?_)
  · have h := it h c
    refine r_iinc (pc := 3270) (v := (x3 + (7 : Int32))) (L' := [(3, vI (x3 + (7 : Int32))), (0, vR (some 3)), (1, vR x1), (2, vR x2)]) dL_law_3270 3 rfl (kc_inc_7 _) (by decide) rfl ?_
    refine r_goto (pc := 3273) (tgt := 18) dL_law_3273 rfl ?_
    refine r_sub [1, 2, 3, 0] rfl ?_
    exact hq18 _ _ _ _ _ _ _ _ h
  · have h := ie h c
    refine r_iconst (pc := 2373) dL_law_2373 kc_iconst_0 ?_
    cases h
def fL_law_b2299 (q18 : (Shp) → (Nat → Nat → Int32) → (Nat → Nat → Int64) → (Nat → Nat → UInt64) → (Nat → Nat → Option Nat) → (Option Nat) → (Option Nat) → (Int32) → (Option (Unit))) (xs : Nat → Int32) (Lg : Nat) (σ : Shp) (I : Nat → Nat → Int32) (J : Nat → Nat → Int64) (D : Nat → Nat → UInt64) (R : Nat → Nat → Option Nat) (x1 : Option Nat) (x2 : Option Nat) (x3 : Int32) : Option Unit :=
  if ¬ ((x3 + (1 : Int32)) < 0 ∨ Lg ≤ Int32.toNatClampNeg (x3 + (1 : Int32))) then
  if ¬ ((x3 + (2 : Int32)) < 0 ∨ Lg ≤ Int32.toNatClampNeg (x3 + (2 : Int32))) then
  (x1 : Option Nat).bind fun a452 =>
  if kdx σ a452 = 12 then
  (fX11_weather σ I R a452 (xs (Int32.toNatClampNeg (x3 + (1 : Int32)))) (xs (Int32.toNatClampNeg (x3 + (2 : Int32))))).bind fun (I454, r455) =>
  (x2 : Option Nat).bind fun a457 =>
  if kdx σ a457 = 13 then
  (fX12_weather σ I454 R a457 (xs (Int32.toNatClampNeg (x3 + (1 : Int32)))) (xs (Int32.toNatClampNeg (x3 + (2 : Int32))))).bind fun (I459, r460) =>
  if r455 = r460 then
    let v462 := x3 + (7 : Int32)
    q18 σ I459 J D R x1 x2 v462
  else
    none
  else none
  else none
  else none
  else none
set_option maxHeartbeats 8000000 in
set_option maxRecDepth 100000 in
theorem wL_law_b2299 {G : Gx} {l : Launch} {xs : Nat → Int32} {Lg : Nat} {σ0 : Shp} {σ : Shp} {I : Nat → Nat → Int32} {J : Nat → Nat → Int64} {D : Nat → Nat → UInt64} {R : Nat → Nat → Option Nat} {q18 : (Shp) → (Nat → Nat → Int32) → (Nat → Nat → Int64) → (Nat → Nat → UInt64) → (Nat → Nat → Option Nat) → (Option Nat) → (Option Nat) → (Int32) → (Option (Unit))} {x1 : Option Nat} {x2 : Option Nat} {x3 : Int32} (hq18 : ∀ (σ : Shp) (I : Nat → Nat → Int32) (J : Nat → Nat → Int64) (D : Nat → Nat → UInt64) (R : Nat → Nat → Option Nat) (x1 : Option Nat) (x2 : Option Nat) (x3 : Int32), q18 σ I J D R x1 x2 x3 = some () → WLaw G l xs Lg σ0 (σ, I, J, D, R) 18 [(0, vR (some 3)), (1, vR x1), (2, vR x2), (3, vI x3)] []) (h : fL_law_b2299 q18 xs Lg σ I J D R x1 x2 x3 = some ()) : WLaw G l xs Lg σ0 (σ, I, J, D, R) 2299 [(0, vR (some 3)), (1, vR x1), (2, vR x2), (3, vI x3)] [] := by
  unfold fL_law_b2299 at h
  refine r_aload_n (pc := 2299) dL_law_2299 rfl 1 rfl ?_
  refine r_aload_n (pc := 2300) dL_law_2300 rfl 0 rfl ?_
  refine r_iload_n (pc := 2301) dL_law_2301 rfl 3 rfl ?_
  refine r_iconst (pc := 2302) dL_law_2302 kc_iconst_1 ?_
  refine r_iadd (pc := 2303) dL_law_2303 ?_
  obtain ⟨g450, h⟩ := gd h
  refine r_scld (pc := 2304) dL_law_2304 g450 ?_
  refine r_aload_n (pc := 2305) dL_law_2305 rfl 0 rfl ?_
  refine r_iload_n (pc := 2306) dL_law_2306 rfl 3 rfl ?_
  refine r_iconst (pc := 2307) dL_law_2307 kc_iconst_2 ?_
  refine r_iadd (pc := 2308) dL_law_2308 ?_
  obtain ⟨g451, h⟩ := gd h
  refine r_scld (pc := 2309) dL_law_2309 g451 ?_
  obtain ⟨a452, ha452, h⟩ := ob h
  refine r_ref2 ha452 ?_
  obtain ⟨g453, h⟩ := gd h
  obtain ⟨⟨I454, r455⟩, hc456, h⟩ := ob h
  refine r_callV1 (pc := 2310) (av := [vI (xs (Int32.toNatClampNeg (x3 + (1 : Int32)))), vI (xs (Int32.toNatClampNeg (x3 + (2 : Int32))))]) (S := []) dL_law_2310 (kX11_weather hc456) g453 rfl mkL_217 mwX11_weather rfl ⟨Nat.le_of_ble_eq_true rfl, Nat.le_of_ble_eq_true rfl⟩ (Nat.le_of_ble_eq_true rfl) ⟨Nat.le_refl _, Nat.le_refl _⟩ (fun b => b) ?_
  refine r_aload_n (pc := 2313) dL_law_2313 rfl 2 rfl ?_
  refine r_aload_n (pc := 2314) dL_law_2314 rfl 0 rfl ?_
  refine r_iload_n (pc := 2315) dL_law_2315 rfl 3 rfl ?_
  refine r_iconst (pc := 2316) dL_law_2316 kc_iconst_1 ?_
  refine r_iadd (pc := 2317) dL_law_2317 ?_
  refine r_scld (pc := 2318) dL_law_2318 g450 ?_
  refine r_aload_n (pc := 2319) dL_law_2319 rfl 0 rfl ?_
  refine r_iload_n (pc := 2320) dL_law_2320 rfl 3 rfl ?_
  refine r_iconst (pc := 2321) dL_law_2321 kc_iconst_2 ?_
  refine r_iadd (pc := 2322) dL_law_2322 ?_
  refine r_scld (pc := 2323) dL_law_2323 g451 ?_
  obtain ⟨a457, ha457, h⟩ := ob h
  refine r_ref2 ha457 ?_
  obtain ⟨g458, h⟩ := gd h
  obtain ⟨⟨I459, r460⟩, hc461, h⟩ := ob h
  refine r_callV1 (pc := 2324) (av := [vI (xs (Int32.toNatClampNeg (x3 + (1 : Int32)))), vI (xs (Int32.toNatClampNeg (x3 + (2 : Int32))))]) (S := [vI r455]) dL_law_2324 (kX12_weather hc461) g458 rfl mkL_220 mwX12_weather rfl ⟨Nat.le_of_ble_eq_true rfl, Nat.le_of_ble_eq_true rfl⟩ (Nat.le_of_ble_eq_true rfl) ⟨Nat.le_refl _, Nat.le_refl _⟩ (fun b => b) ?_
  refine r_icmp_eq (pc := 2327) (tgt := 3270) dL_law_2327 rfl (fun c => ?_) (fun c => ?_)
  · have h := it h c
    refine r_iinc (pc := 3270) (v := (x3 + (7 : Int32))) (L' := [(3, vI (x3 + (7 : Int32))), (0, vR (some 3)), (1, vR x1), (2, vR x2)]) dL_law_3270 3 rfl (kc_inc_7 _) (by decide) rfl ?_
    refine r_goto (pc := 3273) (tgt := 18) dL_law_3273 rfl ?_
    refine r_sub [1, 2, 3, 0] rfl ?_
    exact hq18 _ _ _ _ _ _ _ _ h
  · have h := ie h c
    refine r_iconst (pc := 2330) dL_law_2330 kc_iconst_0 ?_
    cases h
def fL_law_b2275 (q18 : (Shp) → (Nat → Nat → Int32) → (Nat → Nat → Int64) → (Nat → Nat → UInt64) → (Nat → Nat → Option Nat) → (Option Nat) → (Option Nat) → (Int32) → (Option (Unit))) (xs : Nat → Int32) (Lg : Nat) (σ : Shp) (I : Nat → Nat → Int32) (J : Nat → Nat → Int64) (D : Nat → Nat → UInt64) (R : Nat → Nat → Option Nat) (x1 : Option Nat) (x2 : Option Nat) (x3 : Int32) : Option Unit :=
  if ¬ ((x3 + (1 : Int32)) < 0 ∨ Lg ≤ Int32.toNatClampNeg (x3 + (1 : Int32))) then
  (x1 : Option Nat).bind fun a464 =>
  if kdx σ a464 = 12 then
  (fX11_voted σ J R a464 (xs (Int32.toNatClampNeg (x3 + (1 : Int32))))).bind fun r466 =>
  (x2 : Option Nat).bind fun a468 =>
  if kdx σ a468 = 13 then
  (fX12_voted σ J R a468 (xs (Int32.toNatClampNeg (x3 + (1 : Int32))))).bind fun r470 =>
  if r466 = r470 then
    let v472 := x3 + (7 : Int32)
    q18 σ I J D R x1 x2 v472
  else
    none
  else none
  else none
  else none
set_option maxHeartbeats 8000000 in
set_option maxRecDepth 100000 in
theorem wL_law_b2275 {G : Gx} {l : Launch} {xs : Nat → Int32} {Lg : Nat} {σ0 : Shp} {σ : Shp} {I : Nat → Nat → Int32} {J : Nat → Nat → Int64} {D : Nat → Nat → UInt64} {R : Nat → Nat → Option Nat} {q18 : (Shp) → (Nat → Nat → Int32) → (Nat → Nat → Int64) → (Nat → Nat → UInt64) → (Nat → Nat → Option Nat) → (Option Nat) → (Option Nat) → (Int32) → (Option (Unit))} {x1 : Option Nat} {x2 : Option Nat} {x3 : Int32} (hq18 : ∀ (σ : Shp) (I : Nat → Nat → Int32) (J : Nat → Nat → Int64) (D : Nat → Nat → UInt64) (R : Nat → Nat → Option Nat) (x1 : Option Nat) (x2 : Option Nat) (x3 : Int32), q18 σ I J D R x1 x2 x3 = some () → WLaw G l xs Lg σ0 (σ, I, J, D, R) 18 [(0, vR (some 3)), (1, vR x1), (2, vR x2), (3, vI x3)] []) (h : fL_law_b2275 q18 xs Lg σ I J D R x1 x2 x3 = some ()) : WLaw G l xs Lg σ0 (σ, I, J, D, R) 2275 [(0, vR (some 3)), (1, vR x1), (2, vR x2), (3, vI x3)] [] := by
  unfold fL_law_b2275 at h
  refine r_aload_n (pc := 2275) dL_law_2275 rfl 1 rfl ?_
  refine r_aload_n (pc := 2276) dL_law_2276 rfl 0 rfl ?_
  refine r_iload_n (pc := 2277) dL_law_2277 rfl 3 rfl ?_
  refine r_iconst (pc := 2278) dL_law_2278 kc_iconst_1 ?_
  refine r_iadd (pc := 2279) dL_law_2279 ?_
  obtain ⟨g463, h⟩ := gd h
  refine r_scld (pc := 2280) dL_law_2280 g463 ?_
  obtain ⟨a464, ha464, h⟩ := ob h
  refine r_ref1 ha464 ?_
  obtain ⟨g465, h⟩ := gd h
  obtain ⟨r466, hc467, h⟩ := ob h
  refine r_callV1 (pc := 2281) (av := [vI (xs (Int32.toNatClampNeg (x3 + (1 : Int32))))]) (S := []) dL_law_2281 (kX11_voted hc467) g465 rfl mkL_213 mwX11_voted rfl ⟨Nat.le_of_ble_eq_true rfl, Nat.le_of_ble_eq_true rfl⟩ (Nat.le_of_ble_eq_true rfl) ⟨Nat.le_refl _, Nat.le_refl _⟩ (fun b => b) ?_
  refine r_aload_n (pc := 2284) dL_law_2284 rfl 2 rfl ?_
  refine r_aload_n (pc := 2285) dL_law_2285 rfl 0 rfl ?_
  refine r_iload_n (pc := 2286) dL_law_2286 rfl 3 rfl ?_
  refine r_iconst (pc := 2287) dL_law_2287 kc_iconst_1 ?_
  refine r_iadd (pc := 2288) dL_law_2288 ?_
  refine r_scld (pc := 2289) dL_law_2289 g463 ?_
  obtain ⟨a468, ha468, h⟩ := ob h
  refine r_ref1 ha468 ?_
  obtain ⟨g469, h⟩ := gd h
  obtain ⟨r470, hc471, h⟩ := ob h
  refine r_callV1 (pc := 2290) (av := [vI (xs (Int32.toNatClampNeg (x3 + (1 : Int32))))]) (S := [vL r466]) dL_law_2290 (kX12_voted hc471) g469 rfl mkL_216 mwX12_voted rfl ⟨Nat.le_of_ble_eq_true rfl, Nat.le_of_ble_eq_true rfl⟩ (Nat.le_of_ble_eq_true rfl) ⟨Nat.le_refl _, Nat.le_refl _⟩ (fun b => b) ?_
  refine r_lcmp (pc := 2293) dL_law_2293 ?_
  refine r_if_eq (pc := 2294) (tgt := 3270) dL_law_2294 rfl (fun c => ?_) (fun c => ?_)
  · have h := it h (lgc_eq.mp c)
    refine r_iinc (pc := 3270) (v := (x3 + (7 : Int32))) (L' := [(3, vI (x3 + (7 : Int32))), (0, vR (some 3)), (1, vR x1), (2, vR x2)]) dL_law_3270 3 rfl (kc_inc_7 _) (by decide) rfl ?_
    refine r_goto (pc := 3273) (tgt := 18) dL_law_3273 rfl ?_
    refine r_sub [1, 2, 3, 0] rfl ?_
    exact hq18 _ _ _ _ _ _ _ _ h
  · have h := ie h (fun q => c (lgc_eq.mpr q))
    refine r_iconst (pc := 2297) dL_law_2297 kc_iconst_0 ?_
    cases h
def fL_law_b2242 (q18 : (Shp) → (Nat → Nat → Int32) → (Nat → Nat → Int64) → (Nat → Nat → UInt64) → (Nat → Nat → Option Nat) → (Option Nat) → (Option Nat) → (Int32) → (Option (Unit))) (xs : Nat → Int32) (Lg : Nat) (σ : Shp) (I : Nat → Nat → Int32) (J : Nat → Nat → Int64) (D : Nat → Nat → UInt64) (R : Nat → Nat → Option Nat) (x1 : Option Nat) (x2 : Option Nat) (x3 : Int32) : Option Unit :=
  if ¬ ((x3 + (1 : Int32)) < 0 ∨ Lg ≤ Int32.toNatClampNeg (x3 + (1 : Int32))) then
  if ¬ ((x3 + (2 : Int32)) < 0 ∨ Lg ≤ Int32.toNatClampNeg (x3 + (2 : Int32))) then
  (x1 : Option Nat).bind fun a475 =>
  if kdx σ a475 = 12 then
  (fX11_probe σ I R a475 (xs (Int32.toNatClampNeg (x3 + (1 : Int32)))) (xs (Int32.toNatClampNeg (x3 + (2 : Int32))))).bind fun r477 =>
  (x2 : Option Nat).bind fun a479 =>
  if kdx σ a479 = 13 then
  (fX12_probe σ I R a479 (xs (Int32.toNatClampNeg (x3 + (1 : Int32)))) (xs (Int32.toNatClampNeg (x3 + (2 : Int32))))).bind fun r481 =>
  if r477 = r481 then
    let v483 := x3 + (7 : Int32)
    q18 σ I J D R x1 x2 v483
  else
    none
  else none
  else none
  else none
  else none
set_option maxHeartbeats 8000000 in
set_option maxRecDepth 100000 in
theorem wL_law_b2242 {G : Gx} {l : Launch} {xs : Nat → Int32} {Lg : Nat} {σ0 : Shp} {σ : Shp} {I : Nat → Nat → Int32} {J : Nat → Nat → Int64} {D : Nat → Nat → UInt64} {R : Nat → Nat → Option Nat} {q18 : (Shp) → (Nat → Nat → Int32) → (Nat → Nat → Int64) → (Nat → Nat → UInt64) → (Nat → Nat → Option Nat) → (Option Nat) → (Option Nat) → (Int32) → (Option (Unit))} {x1 : Option Nat} {x2 : Option Nat} {x3 : Int32} (hq18 : ∀ (σ : Shp) (I : Nat → Nat → Int32) (J : Nat → Nat → Int64) (D : Nat → Nat → UInt64) (R : Nat → Nat → Option Nat) (x1 : Option Nat) (x2 : Option Nat) (x3 : Int32), q18 σ I J D R x1 x2 x3 = some () → WLaw G l xs Lg σ0 (σ, I, J, D, R) 18 [(0, vR (some 3)), (1, vR x1), (2, vR x2), (3, vI x3)] []) (h : fL_law_b2242 q18 xs Lg σ I J D R x1 x2 x3 = some ()) : WLaw G l xs Lg σ0 (σ, I, J, D, R) 2242 [(0, vR (some 3)), (1, vR x1), (2, vR x2), (3, vI x3)] [] := by
  unfold fL_law_b2242 at h
  refine r_aload_n (pc := 2242) dL_law_2242 rfl 1 rfl ?_
  refine r_aload_n (pc := 2243) dL_law_2243 rfl 0 rfl ?_
  refine r_iload_n (pc := 2244) dL_law_2244 rfl 3 rfl ?_
  refine r_iconst (pc := 2245) dL_law_2245 kc_iconst_1 ?_
  refine r_iadd (pc := 2246) dL_law_2246 ?_
  obtain ⟨g473, h⟩ := gd h
  refine r_scld (pc := 2247) dL_law_2247 g473 ?_
  refine r_aload_n (pc := 2248) dL_law_2248 rfl 0 rfl ?_
  refine r_iload_n (pc := 2249) dL_law_2249 rfl 3 rfl ?_
  refine r_iconst (pc := 2250) dL_law_2250 kc_iconst_2 ?_
  refine r_iadd (pc := 2251) dL_law_2251 ?_
  obtain ⟨g474, h⟩ := gd h
  refine r_scld (pc := 2252) dL_law_2252 g474 ?_
  obtain ⟨a475, ha475, h⟩ := ob h
  refine r_ref2 ha475 ?_
  obtain ⟨g476, h⟩ := gd h
  obtain ⟨r477, hc478, h⟩ := ob h
  refine r_callV1 (pc := 2253) (av := [vI (xs (Int32.toNatClampNeg (x3 + (1 : Int32)))), vI (xs (Int32.toNatClampNeg (x3 + (2 : Int32))))]) (S := []) dL_law_2253 (kX11_probe hc478) g476 rfl mkL_209 mwX11_probe rfl ⟨Nat.le_of_ble_eq_true rfl, Nat.le_of_ble_eq_true rfl⟩ (Nat.le_of_ble_eq_true rfl) ⟨Nat.le_refl _, Nat.le_refl _⟩ (fun b => b) ?_
  refine r_aload_n (pc := 2256) dL_law_2256 rfl 2 rfl ?_
  refine r_aload_n (pc := 2257) dL_law_2257 rfl 0 rfl ?_
  refine r_iload_n (pc := 2258) dL_law_2258 rfl 3 rfl ?_
  refine r_iconst (pc := 2259) dL_law_2259 kc_iconst_1 ?_
  refine r_iadd (pc := 2260) dL_law_2260 ?_
  refine r_scld (pc := 2261) dL_law_2261 g473 ?_
  refine r_aload_n (pc := 2262) dL_law_2262 rfl 0 rfl ?_
  refine r_iload_n (pc := 2263) dL_law_2263 rfl 3 rfl ?_
  refine r_iconst (pc := 2264) dL_law_2264 kc_iconst_2 ?_
  refine r_iadd (pc := 2265) dL_law_2265 ?_
  refine r_scld (pc := 2266) dL_law_2266 g474 ?_
  obtain ⟨a479, ha479, h⟩ := ob h
  refine r_ref2 ha479 ?_
  obtain ⟨g480, h⟩ := gd h
  obtain ⟨r481, hc482, h⟩ := ob h
  refine r_callV1 (pc := 2267) (av := [vI (xs (Int32.toNatClampNeg (x3 + (1 : Int32)))), vI (xs (Int32.toNatClampNeg (x3 + (2 : Int32))))]) (S := [vI r477]) dL_law_2267 (kX12_probe hc482) g480 rfl mkL_212 mwX12_probe rfl ⟨Nat.le_of_ble_eq_true rfl, Nat.le_of_ble_eq_true rfl⟩ (Nat.le_of_ble_eq_true rfl) ⟨Nat.le_refl _, Nat.le_refl _⟩ (fun b => b) ?_
  refine r_icmp_eq (pc := 2270) (tgt := 3270) dL_law_2270 rfl (fun c => ?_) (fun c => ?_)
  · have h := it h c
    refine r_iinc (pc := 3270) (v := (x3 + (7 : Int32))) (L' := [(3, vI (x3 + (7 : Int32))), (0, vR (some 3)), (1, vR x1), (2, vR x2)]) dL_law_3270 3 rfl (kc_inc_7 _) (by decide) rfl ?_
    refine r_goto (pc := 3273) (tgt := 18) dL_law_3273 rfl ?_
    refine r_sub [1, 2, 3, 0] rfl ?_
    exact hq18 _ _ _ _ _ _ _ _ h
  · have h := ie h c
    refine r_iconst (pc := 2273) dL_law_2273 kc_iconst_0 ?_
    cases h
def fL_law_b2189 (q18 : (Shp) → (Nat → Nat → Int32) → (Nat → Nat → Int64) → (Nat → Nat → UInt64) → (Nat → Nat → Option Nat) → (Option Nat) → (Option Nat) → (Int32) → (Option (Unit))) (xs : Nat → Int32) (Lg : Nat) (σ : Shp) (I : Nat → Nat → Int32) (J : Nat → Nat → Int64) (D : Nat → Nat → UInt64) (R : Nat → Nat → Option Nat) (x1 : Option Nat) (x2 : Option Nat) (x3 : Int32) : Option Unit :=
  if ¬ ((x3 + (1 : Int32)) < 0 ∨ Lg ≤ Int32.toNatClampNeg (x3 + (1 : Int32))) then
  if ¬ ((x3 + (2 : Int32)) < 0 ∨ Lg ≤ Int32.toNatClampNeg (x3 + (2 : Int32))) then
  (x1 : Option Nat).bind fun a486 =>
  if kdx σ a486 = 12 then
  (fX11_part σ D R a486 (((Int32.toInt64 (xs (Int32.toNatClampNeg (x3 + (1 : Int32))))) <<< (Int32.toInt64 (32 : Int32) &&& 63)) ||| ((Int32.toInt64 (xs (Int32.toNatClampNeg (x3 + (2 : Int32))))) &&& (4294967295 : Int64)))).bind fun (D488, r489) =>
  (x2 : Option Nat).bind fun a491 =>
  if kdx σ a491 = 13 then
  (fX12_part σ D488 a491 (((Int32.toInt64 (xs (Int32.toNatClampNeg (x3 + (1 : Int32))))) <<< (Int32.toInt64 (32 : Int32) &&& 63)) ||| ((Int32.toInt64 (xs (Int32.toNatClampNeg (x3 + (2 : Int32))))) &&& (4294967295 : Int64)))).bind fun (D493, r494) =>
  if r489 = r494 then
    let v496 := x3 + (7 : Int32)
    q18 σ I J D493 R x1 x2 v496
  else
    none
  else none
  else none
  else none
  else none
set_option maxHeartbeats 8000000 in
set_option maxRecDepth 100000 in
theorem wL_law_b2189 {G : Gx} {l : Launch} {xs : Nat → Int32} {Lg : Nat} {σ0 : Shp} {σ : Shp} {I : Nat → Nat → Int32} {J : Nat → Nat → Int64} {D : Nat → Nat → UInt64} {R : Nat → Nat → Option Nat} {q18 : (Shp) → (Nat → Nat → Int32) → (Nat → Nat → Int64) → (Nat → Nat → UInt64) → (Nat → Nat → Option Nat) → (Option Nat) → (Option Nat) → (Int32) → (Option (Unit))} {x1 : Option Nat} {x2 : Option Nat} {x3 : Int32} (hq18 : ∀ (σ : Shp) (I : Nat → Nat → Int32) (J : Nat → Nat → Int64) (D : Nat → Nat → UInt64) (R : Nat → Nat → Option Nat) (x1 : Option Nat) (x2 : Option Nat) (x3 : Int32), q18 σ I J D R x1 x2 x3 = some () → WLaw G l xs Lg σ0 (σ, I, J, D, R) 18 [(0, vR (some 3)), (1, vR x1), (2, vR x2), (3, vI x3)] []) (h : fL_law_b2189 q18 xs Lg σ I J D R x1 x2 x3 = some ()) : WLaw G l xs Lg σ0 (σ, I, J, D, R) 2189 [(0, vR (some 3)), (1, vR x1), (2, vR x2), (3, vI x3)] [] := by
  unfold fL_law_b2189 at h
  refine r_aload_n (pc := 2189) dL_law_2189 rfl 1 rfl ?_
  refine r_aload_n (pc := 2190) dL_law_2190 rfl 0 rfl ?_
  refine r_iload_n (pc := 2191) dL_law_2191 rfl 3 rfl ?_
  refine r_iconst (pc := 2192) dL_law_2192 kc_iconst_1 ?_
  refine r_iadd (pc := 2193) dL_law_2193 ?_
  obtain ⟨g484, h⟩ := gd h
  refine r_scld (pc := 2194) dL_law_2194 g484 ?_
  refine r_i2l (pc := 2195) dL_law_2195 ?_
  refine r_bipush (pc := 2196) dL_law_2196 kc_bipush_32 ?_
  refine r_lshl (pc := 2198) dL_law_2198 ?_
  refine r_aload_n (pc := 2199) dL_law_2199 rfl 0 rfl ?_
  refine r_iload_n (pc := 2200) dL_law_2200 rfl 3 rfl ?_
  refine r_iconst (pc := 2201) dL_law_2201 kc_iconst_2 ?_
  refine r_iadd (pc := 2202) dL_law_2202 ?_
  obtain ⟨g485, h⟩ := gd h
  refine r_scld (pc := 2203) dL_law_2203 g485 ?_
  refine r_i2l (pc := 2204) dL_law_2204 ?_
  refine r_ldc2 (pc := 2205) dL_law_2205 clL_46 ?_
  refine r_land (pc := 2208) dL_law_2208 ?_
  refine r_lor (pc := 2209) dL_law_2209 ?_
  obtain ⟨a486, ha486, h⟩ := ob h
  refine r_ref1 ha486 ?_
  obtain ⟨g487, h⟩ := gd h
  obtain ⟨⟨D488, r489⟩, hc490, h⟩ := ob h
  refine r_callV1 (pc := 2210) (av := [vL (((Int32.toInt64 (xs (Int32.toNatClampNeg (x3 + (1 : Int32))))) <<< (Int32.toInt64 (32 : Int32) &&& 63)) ||| ((Int32.toInt64 (xs (Int32.toNatClampNeg (x3 + (2 : Int32))))) &&& (4294967295 : Int64)))]) (S := []) dL_law_2210 (kX11_part hc490) g487 rfl mkL_204 mwX11_part rfl ⟨Nat.le_of_ble_eq_true rfl, Nat.le_of_ble_eq_true rfl⟩ (Nat.le_of_ble_eq_true rfl) ⟨Nat.le_refl _, Nat.le_refl _⟩ (fun b => b) ?_
  refine r_aload_n (pc := 2213) dL_law_2213 rfl 2 rfl ?_
  refine r_aload_n (pc := 2214) dL_law_2214 rfl 0 rfl ?_
  refine r_iload_n (pc := 2215) dL_law_2215 rfl 3 rfl ?_
  refine r_iconst (pc := 2216) dL_law_2216 kc_iconst_1 ?_
  refine r_iadd (pc := 2217) dL_law_2217 ?_
  refine r_scld (pc := 2218) dL_law_2218 g484 ?_
  refine r_i2l (pc := 2219) dL_law_2219 ?_
  refine r_bipush (pc := 2220) dL_law_2220 kc_bipush_32 ?_
  refine r_lshl (pc := 2222) dL_law_2222 ?_
  refine r_aload_n (pc := 2223) dL_law_2223 rfl 0 rfl ?_
  refine r_iload_n (pc := 2224) dL_law_2224 rfl 3 rfl ?_
  refine r_iconst (pc := 2225) dL_law_2225 kc_iconst_2 ?_
  refine r_iadd (pc := 2226) dL_law_2226 ?_
  refine r_scld (pc := 2227) dL_law_2227 g485 ?_
  refine r_i2l (pc := 2228) dL_law_2228 ?_
  refine r_ldc2 (pc := 2229) dL_law_2229 clL_46 ?_
  refine r_land (pc := 2232) dL_law_2232 ?_
  refine r_lor (pc := 2233) dL_law_2233 ?_
  obtain ⟨a491, ha491, h⟩ := ob h
  refine r_ref1 ha491 ?_
  obtain ⟨g492, h⟩ := gd h
  obtain ⟨⟨D493, r494⟩, hc495, h⟩ := ob h
  refine r_callV1 (pc := 2234) (av := [vL (((Int32.toInt64 (xs (Int32.toNatClampNeg (x3 + (1 : Int32))))) <<< (Int32.toInt64 (32 : Int32) &&& 63)) ||| ((Int32.toInt64 (xs (Int32.toNatClampNeg (x3 + (2 : Int32))))) &&& (4294967295 : Int64)))]) (S := [vI r489]) dL_law_2234 (kX12_part hc495) g492 rfl mkL_208 mwX12_part rfl ⟨Nat.le_of_ble_eq_true rfl, Nat.le_of_ble_eq_true rfl⟩ (Nat.le_of_ble_eq_true rfl) ⟨Nat.le_refl _, Nat.le_refl _⟩ (fun b => b) ?_
  refine r_icmp_eq (pc := 2237) (tgt := 3270) dL_law_2237 rfl (fun c => ?_) (fun c => ?_)
  · have h := it h c
    refine r_iinc (pc := 3270) (v := (x3 + (7 : Int32))) (L' := [(3, vI (x3 + (7 : Int32))), (0, vR (some 3)), (1, vR x1), (2, vR x2)]) dL_law_3270 3 rfl (kc_inc_7 _) (by decide) rfl ?_
    refine r_goto (pc := 3273) (tgt := 18) dL_law_3273 rfl ?_
    refine r_sub [1, 2, 3, 0] rfl ?_
    exact hq18 _ _ _ _ _ _ _ _ h
  · have h := ie h c
    refine r_iconst (pc := 2240) dL_law_2240 kc_iconst_0 ?_
    cases h
def fL_law_b2126 (q18 : (Shp) → (Nat → Nat → Int32) → (Nat → Nat → Int64) → (Nat → Nat → UInt64) → (Nat → Nat → Option Nat) → (Option Nat) → (Option Nat) → (Int32) → (Option (Unit))) (xs : Nat → Int32) (Lg : Nat) (σ : Shp) (I : Nat → Nat → Int32) (J : Nat → Nat → Int64) (D : Nat → Nat → UInt64) (R : Nat → Nat → Option Nat) (x1 : Option Nat) (x2 : Option Nat) (x3 : Int32) : Option Unit :=
  if ¬ ((x3 + (1 : Int32)) < 0 ∨ Lg ≤ Int32.toNatClampNeg (x3 + (1 : Int32))) then
  if ¬ ((x3 + (2 : Int32)) < 0 ∨ Lg ≤ Int32.toNatClampNeg (x3 + (2 : Int32))) then
  if ¬ ((x3 + (3 : Int32)) < 0 ∨ Lg ≤ Int32.toNatClampNeg (x3 + (3 : Int32))) then
  (x1 : Option Nat).bind fun a500 =>
  if kdx σ a500 = 12 then
  (fX11_read σ J D R a500 (xs (Int32.toNatClampNeg (x3 + (1 : Int32)))) (((Int32.toInt64 (xs (Int32.toNatClampNeg (x3 + (2 : Int32))))) <<< (Int32.toInt64 (32 : Int32) &&& 63)) ||| ((Int32.toInt64 (xs (Int32.toNatClampNeg (x3 + (3 : Int32))))) &&& (4294967295 : Int64)))).bind fun (J502, D503, r504) =>
  (x2 : Option Nat).bind fun a506 =>
  if kdx σ a506 = 13 then
  (fX12_read σ J502 R a506 (xs (Int32.toNatClampNeg (x3 + (1 : Int32)))) (((Int32.toInt64 (xs (Int32.toNatClampNeg (x3 + (2 : Int32))))) <<< (Int32.toInt64 (32 : Int32) &&& 63)) ||| ((Int32.toInt64 (xs (Int32.toNatClampNeg (x3 + (3 : Int32))))) &&& (4294967295 : Int64)))).bind fun (J508, r509) =>
  if r504 = r509 then
    let v511 := x3 + (7 : Int32)
    q18 σ I J508 D503 R x1 x2 v511
  else
    none
  else none
  else none
  else none
  else none
  else none
set_option maxHeartbeats 8000000 in
set_option maxRecDepth 100000 in
theorem wL_law_b2126 {G : Gx} {l : Launch} {xs : Nat → Int32} {Lg : Nat} {σ0 : Shp} {σ : Shp} {I : Nat → Nat → Int32} {J : Nat → Nat → Int64} {D : Nat → Nat → UInt64} {R : Nat → Nat → Option Nat} {q18 : (Shp) → (Nat → Nat → Int32) → (Nat → Nat → Int64) → (Nat → Nat → UInt64) → (Nat → Nat → Option Nat) → (Option Nat) → (Option Nat) → (Int32) → (Option (Unit))} {x1 : Option Nat} {x2 : Option Nat} {x3 : Int32} (hq18 : ∀ (σ : Shp) (I : Nat → Nat → Int32) (J : Nat → Nat → Int64) (D : Nat → Nat → UInt64) (R : Nat → Nat → Option Nat) (x1 : Option Nat) (x2 : Option Nat) (x3 : Int32), q18 σ I J D R x1 x2 x3 = some () → WLaw G l xs Lg σ0 (σ, I, J, D, R) 18 [(0, vR (some 3)), (1, vR x1), (2, vR x2), (3, vI x3)] []) (h : fL_law_b2126 q18 xs Lg σ I J D R x1 x2 x3 = some ()) : WLaw G l xs Lg σ0 (σ, I, J, D, R) 2126 [(0, vR (some 3)), (1, vR x1), (2, vR x2), (3, vI x3)] [] := by
  unfold fL_law_b2126 at h
  refine r_aload_n (pc := 2126) dL_law_2126 rfl 1 rfl ?_
  refine r_aload_n (pc := 2127) dL_law_2127 rfl 0 rfl ?_
  refine r_iload_n (pc := 2128) dL_law_2128 rfl 3 rfl ?_
  refine r_iconst (pc := 2129) dL_law_2129 kc_iconst_1 ?_
  refine r_iadd (pc := 2130) dL_law_2130 ?_
  obtain ⟨g497, h⟩ := gd h
  refine r_scld (pc := 2131) dL_law_2131 g497 ?_
  refine r_aload_n (pc := 2132) dL_law_2132 rfl 0 rfl ?_
  refine r_iload_n (pc := 2133) dL_law_2133 rfl 3 rfl ?_
  refine r_iconst (pc := 2134) dL_law_2134 kc_iconst_2 ?_
  refine r_iadd (pc := 2135) dL_law_2135 ?_
  obtain ⟨g498, h⟩ := gd h
  refine r_scld (pc := 2136) dL_law_2136 g498 ?_
  refine r_i2l (pc := 2137) dL_law_2137 ?_
  refine r_bipush (pc := 2138) dL_law_2138 kc_bipush_32 ?_
  refine r_lshl (pc := 2140) dL_law_2140 ?_
  refine r_aload_n (pc := 2141) dL_law_2141 rfl 0 rfl ?_
  refine r_iload_n (pc := 2142) dL_law_2142 rfl 3 rfl ?_
  refine r_iconst (pc := 2143) dL_law_2143 kc_iconst_3 ?_
  refine r_iadd (pc := 2144) dL_law_2144 ?_
  obtain ⟨g499, h⟩ := gd h
  refine r_scld (pc := 2145) dL_law_2145 g499 ?_
  refine r_i2l (pc := 2146) dL_law_2146 ?_
  refine r_ldc2 (pc := 2147) dL_law_2147 clL_46 ?_
  refine r_land (pc := 2150) dL_law_2150 ?_
  refine r_lor (pc := 2151) dL_law_2151 ?_
  obtain ⟨a500, ha500, h⟩ := ob h
  refine r_ref2 ha500 ?_
  obtain ⟨g501, h⟩ := gd h
  obtain ⟨⟨J502, D503, r504⟩, hc505, h⟩ := ob h
  refine r_callV1 (pc := 2152) (av := [vI (xs (Int32.toNatClampNeg (x3 + (1 : Int32)))), vL (((Int32.toInt64 (xs (Int32.toNatClampNeg (x3 + (2 : Int32))))) <<< (Int32.toInt64 (32 : Int32) &&& 63)) ||| ((Int32.toInt64 (xs (Int32.toNatClampNeg (x3 + (3 : Int32))))) &&& (4294967295 : Int64)))]) (S := []) dL_law_2152 (kX11_read hc505) g501 rfl mkL_200 mwX11_read rfl ⟨Nat.le_of_ble_eq_true rfl, Nat.le_of_ble_eq_true rfl⟩ (Nat.le_of_ble_eq_true rfl) ⟨Nat.le_refl _, Nat.le_refl _⟩ (fun b => b) ?_
  refine r_aload_n (pc := 2155) dL_law_2155 rfl 2 rfl ?_
  refine r_aload_n (pc := 2156) dL_law_2156 rfl 0 rfl ?_
  refine r_iload_n (pc := 2157) dL_law_2157 rfl 3 rfl ?_
  refine r_iconst (pc := 2158) dL_law_2158 kc_iconst_1 ?_
  refine r_iadd (pc := 2159) dL_law_2159 ?_
  refine r_scld (pc := 2160) dL_law_2160 g497 ?_
  refine r_aload_n (pc := 2161) dL_law_2161 rfl 0 rfl ?_
  refine r_iload_n (pc := 2162) dL_law_2162 rfl 3 rfl ?_
  refine r_iconst (pc := 2163) dL_law_2163 kc_iconst_2 ?_
  refine r_iadd (pc := 2164) dL_law_2164 ?_
  refine r_scld (pc := 2165) dL_law_2165 g498 ?_
  refine r_i2l (pc := 2166) dL_law_2166 ?_
  refine r_bipush (pc := 2167) dL_law_2167 kc_bipush_32 ?_
  refine r_lshl (pc := 2169) dL_law_2169 ?_
  refine r_aload_n (pc := 2170) dL_law_2170 rfl 0 rfl ?_
  refine r_iload_n (pc := 2171) dL_law_2171 rfl 3 rfl ?_
  refine r_iconst (pc := 2172) dL_law_2172 kc_iconst_3 ?_
  refine r_iadd (pc := 2173) dL_law_2173 ?_
  refine r_scld (pc := 2174) dL_law_2174 g499 ?_
  refine r_i2l (pc := 2175) dL_law_2175 ?_
  refine r_ldc2 (pc := 2176) dL_law_2176 clL_46 ?_
  refine r_land (pc := 2179) dL_law_2179 ?_
  refine r_lor (pc := 2180) dL_law_2180 ?_
  obtain ⟨a506, ha506, h⟩ := ob h
  refine r_ref2 ha506 ?_
  obtain ⟨g507, h⟩ := gd h
  obtain ⟨⟨J508, r509⟩, hc510, h⟩ := ob h
  refine r_callV1 (pc := 2181) (av := [vI (xs (Int32.toNatClampNeg (x3 + (1 : Int32)))), vL (((Int32.toInt64 (xs (Int32.toNatClampNeg (x3 + (2 : Int32))))) <<< (Int32.toInt64 (32 : Int32) &&& 63)) ||| ((Int32.toInt64 (xs (Int32.toNatClampNeg (x3 + (3 : Int32))))) &&& (4294967295 : Int64)))]) (S := [vI r504]) dL_law_2181 (kX12_read hc510) g507 rfl mkL_203 mwX12_read rfl ⟨Nat.le_of_ble_eq_true rfl, Nat.le_of_ble_eq_true rfl⟩ (Nat.le_of_ble_eq_true rfl) ⟨Nat.le_refl _, Nat.le_refl _⟩ (fun b => b) ?_
  refine r_icmp_eq (pc := 2184) (tgt := 3270) dL_law_2184 rfl (fun c => ?_) (fun c => ?_)
  · have h := it h c
    refine r_iinc (pc := 3270) (v := (x3 + (7 : Int32))) (L' := [(3, vI (x3 + (7 : Int32))), (0, vR (some 3)), (1, vR x1), (2, vR x2)]) dL_law_3270 3 rfl (kc_inc_7 _) (by decide) rfl ?_
    refine r_goto (pc := 3273) (tgt := 18) dL_law_3273 rfl ?_
    refine r_sub [1, 2, 3, 0] rfl ?_
    exact hq18 _ _ _ _ _ _ _ _ h
  · have h := ie h c
    refine r_iconst (pc := 2187) dL_law_2187 kc_iconst_0 ?_
    cases h
def fL_law_b2103 (q18 : (Shp) → (Nat → Nat → Int32) → (Nat → Nat → Int64) → (Nat → Nat → UInt64) → (Nat → Nat → Option Nat) → (Option Nat) → (Option Nat) → (Int32) → (Option (Unit))) (xs : Nat → Int32) (Lg : Nat) (σ : Shp) (I : Nat → Nat → Int32) (J : Nat → Nat → Int64) (D : Nat → Nat → UInt64) (R : Nat → Nat → Option Nat) (x1 : Option Nat) (x2 : Option Nat) (x3 : Int32) : Option Unit :=
  if ¬ ((x3 + (1 : Int32)) < 0 ∨ Lg ≤ Int32.toNatClampNeg (x3 + (1 : Int32))) then
  (x1 : Option Nat).bind fun a513 =>
  if kdx σ a513 = 12 then
  (fX11_laid σ I R a513 (xs (Int32.toNatClampNeg (x3 + (1 : Int32))))).bind fun r515 =>
  (x2 : Option Nat).bind fun a517 =>
  if kdx σ a517 = 13 then
  (fX12_laid σ I R a517 (xs (Int32.toNatClampNeg (x3 + (1 : Int32))))).bind fun r519 =>
  if r515 = r519 then
    let v521 := x3 + (7 : Int32)
    q18 σ I J D R x1 x2 v521
  else
    none
  else none
  else none
  else none
set_option maxHeartbeats 8000000 in
set_option maxRecDepth 100000 in
theorem wL_law_b2103 {G : Gx} {l : Launch} {xs : Nat → Int32} {Lg : Nat} {σ0 : Shp} {σ : Shp} {I : Nat → Nat → Int32} {J : Nat → Nat → Int64} {D : Nat → Nat → UInt64} {R : Nat → Nat → Option Nat} {q18 : (Shp) → (Nat → Nat → Int32) → (Nat → Nat → Int64) → (Nat → Nat → UInt64) → (Nat → Nat → Option Nat) → (Option Nat) → (Option Nat) → (Int32) → (Option (Unit))} {x1 : Option Nat} {x2 : Option Nat} {x3 : Int32} (hq18 : ∀ (σ : Shp) (I : Nat → Nat → Int32) (J : Nat → Nat → Int64) (D : Nat → Nat → UInt64) (R : Nat → Nat → Option Nat) (x1 : Option Nat) (x2 : Option Nat) (x3 : Int32), q18 σ I J D R x1 x2 x3 = some () → WLaw G l xs Lg σ0 (σ, I, J, D, R) 18 [(0, vR (some 3)), (1, vR x1), (2, vR x2), (3, vI x3)] []) (h : fL_law_b2103 q18 xs Lg σ I J D R x1 x2 x3 = some ()) : WLaw G l xs Lg σ0 (σ, I, J, D, R) 2103 [(0, vR (some 3)), (1, vR x1), (2, vR x2), (3, vI x3)] [] := by
  unfold fL_law_b2103 at h
  refine r_aload_n (pc := 2103) dL_law_2103 rfl 1 rfl ?_
  refine r_aload_n (pc := 2104) dL_law_2104 rfl 0 rfl ?_
  refine r_iload_n (pc := 2105) dL_law_2105 rfl 3 rfl ?_
  refine r_iconst (pc := 2106) dL_law_2106 kc_iconst_1 ?_
  refine r_iadd (pc := 2107) dL_law_2107 ?_
  obtain ⟨g512, h⟩ := gd h
  refine r_scld (pc := 2108) dL_law_2108 g512 ?_
  obtain ⟨a513, ha513, h⟩ := ob h
  refine r_ref1 ha513 ?_
  obtain ⟨g514, h⟩ := gd h
  obtain ⟨r515, hc516, h⟩ := ob h
  refine r_callV1 (pc := 2109) (av := [vI (xs (Int32.toNatClampNeg (x3 + (1 : Int32))))]) (S := []) dL_law_2109 (kX11_laid hc516) g514 rfl mkL_196 mwX11_laid rfl ⟨Nat.le_of_ble_eq_true rfl, Nat.le_of_ble_eq_true rfl⟩ (Nat.le_of_ble_eq_true rfl) ⟨Nat.le_refl _, Nat.le_refl _⟩ (fun b => b) ?_
  refine r_aload_n (pc := 2112) dL_law_2112 rfl 2 rfl ?_
  refine r_aload_n (pc := 2113) dL_law_2113 rfl 0 rfl ?_
  refine r_iload_n (pc := 2114) dL_law_2114 rfl 3 rfl ?_
  refine r_iconst (pc := 2115) dL_law_2115 kc_iconst_1 ?_
  refine r_iadd (pc := 2116) dL_law_2116 ?_
  refine r_scld (pc := 2117) dL_law_2117 g512 ?_
  obtain ⟨a517, ha517, h⟩ := ob h
  refine r_ref1 ha517 ?_
  obtain ⟨g518, h⟩ := gd h
  obtain ⟨r519, hc520, h⟩ := ob h
  refine r_callV1 (pc := 2118) (av := [vI (xs (Int32.toNatClampNeg (x3 + (1 : Int32))))]) (S := [vI r515]) dL_law_2118 (kX12_laid hc520) g518 rfl mkL_199 mwX12_laid rfl ⟨Nat.le_of_ble_eq_true rfl, Nat.le_of_ble_eq_true rfl⟩ (Nat.le_of_ble_eq_true rfl) ⟨Nat.le_refl _, Nat.le_refl _⟩ (fun b => b) ?_
  refine r_icmp_eq (pc := 2121) (tgt := 3270) dL_law_2121 rfl (fun c => ?_) (fun c => ?_)
  · have h := it h c
    refine r_iinc (pc := 3270) (v := (x3 + (7 : Int32))) (L' := [(3, vI (x3 + (7 : Int32))), (0, vR (some 3)), (1, vR x1), (2, vR x2)]) dL_law_3270 3 rfl (kc_inc_7 _) (by decide) rfl ?_
    refine r_goto (pc := 3273) (tgt := 18) dL_law_3273 rfl ?_
    refine r_sub [1, 2, 3, 0] rfl ?_
    exact hq18 _ _ _ _ _ _ _ _ h
  · have h := ie h c
    refine r_iconst (pc := 2124) dL_law_2124 kc_iconst_0 ?_
    cases h
def fL_law_b2070 (q18 : (Shp) → (Nat → Nat → Int32) → (Nat → Nat → Int64) → (Nat → Nat → UInt64) → (Nat → Nat → Option Nat) → (Option Nat) → (Option Nat) → (Int32) → (Option (Unit))) (xs : Nat → Int32) (Lg : Nat) (σ : Shp) (I : Nat → Nat → Int32) (J : Nat → Nat → Int64) (D : Nat → Nat → UInt64) (R : Nat → Nat → Option Nat) (x1 : Option Nat) (x2 : Option Nat) (x3 : Int32) : Option Unit :=
  if ¬ ((x3 + (1 : Int32)) < 0 ∨ Lg ≤ Int32.toNatClampNeg (x3 + (1 : Int32))) then
  if ¬ ((x3 + (2 : Int32)) < 0 ∨ Lg ≤ Int32.toNatClampNeg (x3 + (2 : Int32))) then
  (x1 : Option Nat).bind fun a524 =>
  if kdx σ a524 = 12 then
  (fX11_value σ I R a524 (xs (Int32.toNatClampNeg (x3 + (1 : Int32)))) (xs (Int32.toNatClampNeg (x3 + (2 : Int32))))).bind fun (I526, r527) =>
  (x2 : Option Nat).bind fun a529 =>
  if kdx σ a529 = 13 then
  (fX12_value σ I526 R a529 (xs (Int32.toNatClampNeg (x3 + (1 : Int32)))) (xs (Int32.toNatClampNeg (x3 + (2 : Int32))))).bind fun (I531, r532) =>
  if r527 = r532 then
    let v534 := x3 + (7 : Int32)
    q18 σ I531 J D R x1 x2 v534
  else
    none
  else none
  else none
  else none
  else none
set_option maxHeartbeats 8000000 in
set_option maxRecDepth 100000 in
theorem wL_law_b2070 {G : Gx} {l : Launch} {xs : Nat → Int32} {Lg : Nat} {σ0 : Shp} {σ : Shp} {I : Nat → Nat → Int32} {J : Nat → Nat → Int64} {D : Nat → Nat → UInt64} {R : Nat → Nat → Option Nat} {q18 : (Shp) → (Nat → Nat → Int32) → (Nat → Nat → Int64) → (Nat → Nat → UInt64) → (Nat → Nat → Option Nat) → (Option Nat) → (Option Nat) → (Int32) → (Option (Unit))} {x1 : Option Nat} {x2 : Option Nat} {x3 : Int32} (hq18 : ∀ (σ : Shp) (I : Nat → Nat → Int32) (J : Nat → Nat → Int64) (D : Nat → Nat → UInt64) (R : Nat → Nat → Option Nat) (x1 : Option Nat) (x2 : Option Nat) (x3 : Int32), q18 σ I J D R x1 x2 x3 = some () → WLaw G l xs Lg σ0 (σ, I, J, D, R) 18 [(0, vR (some 3)), (1, vR x1), (2, vR x2), (3, vI x3)] []) (h : fL_law_b2070 q18 xs Lg σ I J D R x1 x2 x3 = some ()) : WLaw G l xs Lg σ0 (σ, I, J, D, R) 2070 [(0, vR (some 3)), (1, vR x1), (2, vR x2), (3, vI x3)] [] := by
  unfold fL_law_b2070 at h
  refine r_aload_n (pc := 2070) dL_law_2070 rfl 1 rfl ?_
  refine r_aload_n (pc := 2071) dL_law_2071 rfl 0 rfl ?_
  refine r_iload_n (pc := 2072) dL_law_2072 rfl 3 rfl ?_
  refine r_iconst (pc := 2073) dL_law_2073 kc_iconst_1 ?_
  refine r_iadd (pc := 2074) dL_law_2074 ?_
  obtain ⟨g522, h⟩ := gd h
  refine r_scld (pc := 2075) dL_law_2075 g522 ?_
  refine r_aload_n (pc := 2076) dL_law_2076 rfl 0 rfl ?_
  refine r_iload_n (pc := 2077) dL_law_2077 rfl 3 rfl ?_
  refine r_iconst (pc := 2078) dL_law_2078 kc_iconst_2 ?_
  refine r_iadd (pc := 2079) dL_law_2079 ?_
  obtain ⟨g523, h⟩ := gd h
  refine r_scld (pc := 2080) dL_law_2080 g523 ?_
  obtain ⟨a524, ha524, h⟩ := ob h
  refine r_ref2 ha524 ?_
  obtain ⟨g525, h⟩ := gd h
  obtain ⟨⟨I526, r527⟩, hc528, h⟩ := ob h
  refine r_callV1 (pc := 2081) (av := [vI (xs (Int32.toNatClampNeg (x3 + (1 : Int32)))), vI (xs (Int32.toNatClampNeg (x3 + (2 : Int32))))]) (S := []) dL_law_2081 (kX11_value hc528) g525 rfl mkL_192 mwX11_value rfl ⟨Nat.le_of_ble_eq_true rfl, Nat.le_of_ble_eq_true rfl⟩ (Nat.le_of_ble_eq_true rfl) ⟨Nat.le_refl _, Nat.le_refl _⟩ (fun b => b) ?_
  refine r_aload_n (pc := 2084) dL_law_2084 rfl 2 rfl ?_
  refine r_aload_n (pc := 2085) dL_law_2085 rfl 0 rfl ?_
  refine r_iload_n (pc := 2086) dL_law_2086 rfl 3 rfl ?_
  refine r_iconst (pc := 2087) dL_law_2087 kc_iconst_1 ?_
  refine r_iadd (pc := 2088) dL_law_2088 ?_
  refine r_scld (pc := 2089) dL_law_2089 g522 ?_
  refine r_aload_n (pc := 2090) dL_law_2090 rfl 0 rfl ?_
  refine r_iload_n (pc := 2091) dL_law_2091 rfl 3 rfl ?_
  refine r_iconst (pc := 2092) dL_law_2092 kc_iconst_2 ?_
  refine r_iadd (pc := 2093) dL_law_2093 ?_
  refine r_scld (pc := 2094) dL_law_2094 g523 ?_
  obtain ⟨a529, ha529, h⟩ := ob h
  refine r_ref2 ha529 ?_
  obtain ⟨g530, h⟩ := gd h
  obtain ⟨⟨I531, r532⟩, hc533, h⟩ := ob h
  refine r_callV1 (pc := 2095) (av := [vI (xs (Int32.toNatClampNeg (x3 + (1 : Int32)))), vI (xs (Int32.toNatClampNeg (x3 + (2 : Int32))))]) (S := [vI r527]) dL_law_2095 (kX12_value hc533) g530 rfl mkL_195 mwX12_value rfl ⟨Nat.le_of_ble_eq_true rfl, Nat.le_of_ble_eq_true rfl⟩ (Nat.le_of_ble_eq_true rfl) ⟨Nat.le_refl _, Nat.le_refl _⟩ (fun b => b) ?_
  refine r_icmp_eq (pc := 2098) (tgt := 3270) dL_law_2098 rfl (fun c => ?_) (fun c => ?_)
  · have h := it h c
    refine r_iinc (pc := 3270) (v := (x3 + (7 : Int32))) (L' := [(3, vI (x3 + (7 : Int32))), (0, vR (some 3)), (1, vR x1), (2, vR x2)]) dL_law_3270 3 rfl (kc_inc_7 _) (by decide) rfl ?_
    refine r_goto (pc := 3273) (tgt := 18) dL_law_3273 rfl ?_
    refine r_sub [1, 2, 3, 0] rfl ?_
    exact hq18 _ _ _ _ _ _ _ _ h
  · have h := ie h c
    refine r_iconst (pc := 2101) dL_law_2101 kc_iconst_0 ?_
    cases h
def fL_law_b2037 (q18 : (Shp) → (Nat → Nat → Int32) → (Nat → Nat → Int64) → (Nat → Nat → UInt64) → (Nat → Nat → Option Nat) → (Option Nat) → (Option Nat) → (Int32) → (Option (Unit))) (xs : Nat → Int32) (Lg : Nat) (σ : Shp) (I : Nat → Nat → Int32) (J : Nat → Nat → Int64) (D : Nat → Nat → UInt64) (R : Nat → Nat → Option Nat) (x1 : Option Nat) (x2 : Option Nat) (x3 : Int32) : Option Unit :=
  if ¬ ((x3 + (1 : Int32)) < 0 ∨ Lg ≤ Int32.toNatClampNeg (x3 + (1 : Int32))) then
  if ¬ ((x3 + (2 : Int32)) < 0 ∨ Lg ≤ Int32.toNatClampNeg (x3 + (2 : Int32))) then
  (x1 : Option Nat).bind fun a537 =>
  if kdx σ a537 = 12 then
  (fX11_rest σ I R a537 (xs (Int32.toNatClampNeg (x3 + (1 : Int32)))) (xs (Int32.toNatClampNeg (x3 + (2 : Int32))))).bind fun (I539, r540) =>
  (x2 : Option Nat).bind fun a542 =>
  if kdx σ a542 = 13 then
  (fX12_rest σ I539 R a542 (xs (Int32.toNatClampNeg (x3 + (1 : Int32)))) (xs (Int32.toNatClampNeg (x3 + (2 : Int32))))).bind fun (I544, r545) =>
  if r540 = r545 then
    let v547 := x3 + (7 : Int32)
    q18 σ I544 J D R x1 x2 v547
  else
    none
  else none
  else none
  else none
  else none
set_option maxHeartbeats 8000000 in
set_option maxRecDepth 100000 in
theorem wL_law_b2037 {G : Gx} {l : Launch} {xs : Nat → Int32} {Lg : Nat} {σ0 : Shp} {σ : Shp} {I : Nat → Nat → Int32} {J : Nat → Nat → Int64} {D : Nat → Nat → UInt64} {R : Nat → Nat → Option Nat} {q18 : (Shp) → (Nat → Nat → Int32) → (Nat → Nat → Int64) → (Nat → Nat → UInt64) → (Nat → Nat → Option Nat) → (Option Nat) → (Option Nat) → (Int32) → (Option (Unit))} {x1 : Option Nat} {x2 : Option Nat} {x3 : Int32} (hq18 : ∀ (σ : Shp) (I : Nat → Nat → Int32) (J : Nat → Nat → Int64) (D : Nat → Nat → UInt64) (R : Nat → Nat → Option Nat) (x1 : Option Nat) (x2 : Option Nat) (x3 : Int32), q18 σ I J D R x1 x2 x3 = some () → WLaw G l xs Lg σ0 (σ, I, J, D, R) 18 [(0, vR (some 3)), (1, vR x1), (2, vR x2), (3, vI x3)] []) (h : fL_law_b2037 q18 xs Lg σ I J D R x1 x2 x3 = some ()) : WLaw G l xs Lg σ0 (σ, I, J, D, R) 2037 [(0, vR (some 3)), (1, vR x1), (2, vR x2), (3, vI x3)] [] := by
  unfold fL_law_b2037 at h
  refine r_aload_n (pc := 2037) dL_law_2037 rfl 1 rfl ?_
  refine r_aload_n (pc := 2038) dL_law_2038 rfl 0 rfl ?_
  refine r_iload_n (pc := 2039) dL_law_2039 rfl 3 rfl ?_
  refine r_iconst (pc := 2040) dL_law_2040 kc_iconst_1 ?_
  refine r_iadd (pc := 2041) dL_law_2041 ?_
  obtain ⟨g535, h⟩ := gd h
  refine r_scld (pc := 2042) dL_law_2042 g535 ?_
  refine r_aload_n (pc := 2043) dL_law_2043 rfl 0 rfl ?_
  refine r_iload_n (pc := 2044) dL_law_2044 rfl 3 rfl ?_
  refine r_iconst (pc := 2045) dL_law_2045 kc_iconst_2 ?_
  refine r_iadd (pc := 2046) dL_law_2046 ?_
  obtain ⟨g536, h⟩ := gd h
  refine r_scld (pc := 2047) dL_law_2047 g536 ?_
  obtain ⟨a537, ha537, h⟩ := ob h
  refine r_ref2 ha537 ?_
  obtain ⟨g538, h⟩ := gd h
  obtain ⟨⟨I539, r540⟩, hc541, h⟩ := ob h
  refine r_callV1 (pc := 2048) (av := [vI (xs (Int32.toNatClampNeg (x3 + (1 : Int32)))), vI (xs (Int32.toNatClampNeg (x3 + (2 : Int32))))]) (S := []) dL_law_2048 (kX11_rest hc541) g538 rfl mkL_188 mwX11_rest rfl ⟨Nat.le_of_ble_eq_true rfl, Nat.le_of_ble_eq_true rfl⟩ (Nat.le_of_ble_eq_true rfl) ⟨Nat.le_refl _, Nat.le_refl _⟩ (fun b => b) ?_
  refine r_aload_n (pc := 2051) dL_law_2051 rfl 2 rfl ?_
  refine r_aload_n (pc := 2052) dL_law_2052 rfl 0 rfl ?_
  refine r_iload_n (pc := 2053) dL_law_2053 rfl 3 rfl ?_
  refine r_iconst (pc := 2054) dL_law_2054 kc_iconst_1 ?_
  refine r_iadd (pc := 2055) dL_law_2055 ?_
  refine r_scld (pc := 2056) dL_law_2056 g535 ?_
  refine r_aload_n (pc := 2057) dL_law_2057 rfl 0 rfl ?_
  refine r_iload_n (pc := 2058) dL_law_2058 rfl 3 rfl ?_
  refine r_iconst (pc := 2059) dL_law_2059 kc_iconst_2 ?_
  refine r_iadd (pc := 2060) dL_law_2060 ?_
  refine r_scld (pc := 2061) dL_law_2061 g536 ?_
  obtain ⟨a542, ha542, h⟩ := ob h
  refine r_ref2 ha542 ?_
  obtain ⟨g543, h⟩ := gd h
  obtain ⟨⟨I544, r545⟩, hc546, h⟩ := ob h
  refine r_callV1 (pc := 2062) (av := [vI (xs (Int32.toNatClampNeg (x3 + (1 : Int32)))), vI (xs (Int32.toNatClampNeg (x3 + (2 : Int32))))]) (S := [vI r540]) dL_law_2062 (kX12_rest hc546) g543 rfl mkL_191 mwX12_rest rfl ⟨Nat.le_of_ble_eq_true rfl, Nat.le_of_ble_eq_true rfl⟩ (Nat.le_of_ble_eq_true rfl) ⟨Nat.le_refl _, Nat.le_refl _⟩ (fun b => b) ?_
  refine r_icmp_eq (pc := 2065) (tgt := 3270) dL_law_2065 rfl (fun c => ?_) (fun c => ?_)
  · have h := it h c
    refine r_iinc (pc := 3270) (v := (x3 + (7 : Int32))) (L' := [(3, vI (x3 + (7 : Int32))), (0, vR (some 3)), (1, vR x1), (2, vR x2)]) dL_law_3270 3 rfl (kc_inc_7 _) (by decide) rfl ?_
    refine r_goto (pc := 3273) (tgt := 18) dL_law_3273 rfl ?_
    refine r_sub [1, 2, 3, 0] rfl ?_
    exact hq18 _ _ _ _ _ _ _ _ h
  · have h := ie h c
    refine r_iconst (pc := 2068) dL_law_2068 kc_iconst_0 ?_
    cases h
def fL_law_b1994 (q18 : (Shp) → (Nat → Nat → Int32) → (Nat → Nat → Int64) → (Nat → Nat → UInt64) → (Nat → Nat → Option Nat) → (Option Nat) → (Option Nat) → (Int32) → (Option (Unit))) (xs : Nat → Int32) (Lg : Nat) (σ : Shp) (I : Nat → Nat → Int32) (J : Nat → Nat → Int64) (D : Nat → Nat → UInt64) (R : Nat → Nat → Option Nat) (x1 : Option Nat) (x2 : Option Nat) (x3 : Int32) : Option Unit :=
  if ¬ ((x3 + (1 : Int32)) < 0 ∨ Lg ≤ Int32.toNatClampNeg (x3 + (1 : Int32))) then
  if ¬ ((x3 + (2 : Int32)) < 0 ∨ Lg ≤ Int32.toNatClampNeg (x3 + (2 : Int32))) then
  if ¬ ((x3 + (3 : Int32)) < 0 ∨ Lg ≤ Int32.toNatClampNeg (x3 + (3 : Int32))) then
  (x1 : Option Nat).bind fun a551 =>
  if kdx σ a551 = 12 then
  (fX11_line σ I R a551 (xs (Int32.toNatClampNeg (x3 + (1 : Int32)))) (xs (Int32.toNatClampNeg (x3 + (2 : Int32)))) (xs (Int32.toNatClampNeg (x3 + (3 : Int32))))).bind fun (I553, r554) =>
  (x2 : Option Nat).bind fun a556 =>
  if kdx σ a556 = 13 then
  (fX12_line σ I553 R a556 (xs (Int32.toNatClampNeg (x3 + (1 : Int32)))) (xs (Int32.toNatClampNeg (x3 + (2 : Int32)))) (xs (Int32.toNatClampNeg (x3 + (3 : Int32))))).bind fun (I558, r559) =>
  if r554 = r559 then
    let v561 := x3 + (7 : Int32)
    q18 σ I558 J D R x1 x2 v561
  else
    none
  else none
  else none
  else none
  else none
  else none
set_option maxHeartbeats 8000000 in
set_option maxRecDepth 100000 in
theorem wL_law_b1994 {G : Gx} {l : Launch} {xs : Nat → Int32} {Lg : Nat} {σ0 : Shp} {σ : Shp} {I : Nat → Nat → Int32} {J : Nat → Nat → Int64} {D : Nat → Nat → UInt64} {R : Nat → Nat → Option Nat} {q18 : (Shp) → (Nat → Nat → Int32) → (Nat → Nat → Int64) → (Nat → Nat → UInt64) → (Nat → Nat → Option Nat) → (Option Nat) → (Option Nat) → (Int32) → (Option (Unit))} {x1 : Option Nat} {x2 : Option Nat} {x3 : Int32} (hq18 : ∀ (σ : Shp) (I : Nat → Nat → Int32) (J : Nat → Nat → Int64) (D : Nat → Nat → UInt64) (R : Nat → Nat → Option Nat) (x1 : Option Nat) (x2 : Option Nat) (x3 : Int32), q18 σ I J D R x1 x2 x3 = some () → WLaw G l xs Lg σ0 (σ, I, J, D, R) 18 [(0, vR (some 3)), (1, vR x1), (2, vR x2), (3, vI x3)] []) (h : fL_law_b1994 q18 xs Lg σ I J D R x1 x2 x3 = some ()) : WLaw G l xs Lg σ0 (σ, I, J, D, R) 1994 [(0, vR (some 3)), (1, vR x1), (2, vR x2), (3, vI x3)] [] := by
  unfold fL_law_b1994 at h
  refine r_aload_n (pc := 1994) dL_law_1994 rfl 1 rfl ?_
  refine r_aload_n (pc := 1995) dL_law_1995 rfl 0 rfl ?_
  refine r_iload_n (pc := 1996) dL_law_1996 rfl 3 rfl ?_
  refine r_iconst (pc := 1997) dL_law_1997 kc_iconst_1 ?_
  refine r_iadd (pc := 1998) dL_law_1998 ?_
  obtain ⟨g548, h⟩ := gd h
  refine r_scld (pc := 1999) dL_law_1999 g548 ?_
  refine r_aload_n (pc := 2000) dL_law_2000 rfl 0 rfl ?_
  refine r_iload_n (pc := 2001) dL_law_2001 rfl 3 rfl ?_
  refine r_iconst (pc := 2002) dL_law_2002 kc_iconst_2 ?_
  refine r_iadd (pc := 2003) dL_law_2003 ?_
  obtain ⟨g549, h⟩ := gd h
  refine r_scld (pc := 2004) dL_law_2004 g549 ?_
  refine r_aload_n (pc := 2005) dL_law_2005 rfl 0 rfl ?_
  refine r_iload_n (pc := 2006) dL_law_2006 rfl 3 rfl ?_
  refine r_iconst (pc := 2007) dL_law_2007 kc_iconst_3 ?_
  refine r_iadd (pc := 2008) dL_law_2008 ?_
  obtain ⟨g550, h⟩ := gd h
  refine r_scld (pc := 2009) dL_law_2009 g550 ?_
  obtain ⟨a551, ha551, h⟩ := ob h
  refine r_ref3 ha551 ?_
  obtain ⟨g552, h⟩ := gd h
  obtain ⟨⟨I553, r554⟩, hc555, h⟩ := ob h
  refine r_callV1 (pc := 2010) (av := [vI (xs (Int32.toNatClampNeg (x3 + (1 : Int32)))), vI (xs (Int32.toNatClampNeg (x3 + (2 : Int32)))), vI (xs (Int32.toNatClampNeg (x3 + (3 : Int32))))]) (S := []) dL_law_2010 (kX11_line hc555) g552 rfl mkL_184 mwX11_line rfl ⟨Nat.le_of_ble_eq_true rfl, Nat.le_of_ble_eq_true rfl⟩ (Nat.le_of_ble_eq_true rfl) ⟨Nat.le_refl _, Nat.le_refl _⟩ (fun b => b) ?_
  refine r_aload_n (pc := 2013) dL_law_2013 rfl 2 rfl ?_
  refine r_aload_n (pc := 2014) dL_law_2014 rfl 0 rfl ?_
  refine r_iload_n (pc := 2015) dL_law_2015 rfl 3 rfl ?_
  refine r_iconst (pc := 2016) dL_law_2016 kc_iconst_1 ?_
  refine r_iadd (pc := 2017) dL_law_2017 ?_
  refine r_scld (pc := 2018) dL_law_2018 g548 ?_
  refine r_aload_n (pc := 2019) dL_law_2019 rfl 0 rfl ?_
  refine r_iload_n (pc := 2020) dL_law_2020 rfl 3 rfl ?_
  refine r_iconst (pc := 2021) dL_law_2021 kc_iconst_2 ?_
  refine r_iadd (pc := 2022) dL_law_2022 ?_
  refine r_scld (pc := 2023) dL_law_2023 g549 ?_
  refine r_aload_n (pc := 2024) dL_law_2024 rfl 0 rfl ?_
  refine r_iload_n (pc := 2025) dL_law_2025 rfl 3 rfl ?_
  refine r_iconst (pc := 2026) dL_law_2026 kc_iconst_3 ?_
  refine r_iadd (pc := 2027) dL_law_2027 ?_
  refine r_scld (pc := 2028) dL_law_2028 g550 ?_
  obtain ⟨a556, ha556, h⟩ := ob h
  refine r_ref3 ha556 ?_
  obtain ⟨g557, h⟩ := gd h
  obtain ⟨⟨I558, r559⟩, hc560, h⟩ := ob h
  refine r_callV1 (pc := 2029) (av := [vI (xs (Int32.toNatClampNeg (x3 + (1 : Int32)))), vI (xs (Int32.toNatClampNeg (x3 + (2 : Int32)))), vI (xs (Int32.toNatClampNeg (x3 + (3 : Int32))))]) (S := [vI r554]) dL_law_2029 (kX12_line hc560) g557 rfl mkL_187 mwX12_line rfl ⟨Nat.le_of_ble_eq_true rfl, Nat.le_of_ble_eq_true rfl⟩ (Nat.le_of_ble_eq_true rfl) ⟨Nat.le_refl _, Nat.le_refl _⟩ (fun b => b) ?_
  refine r_icmp_eq (pc := 2032) (tgt := 3270) dL_law_2032 rfl (fun c => ?_) (fun c => ?_)
  · have h := it h c
    refine r_iinc (pc := 3270) (v := (x3 + (7 : Int32))) (L' := [(3, vI (x3 + (7 : Int32))), (0, vR (some 3)), (1, vR x1), (2, vR x2)]) dL_law_3270 3 rfl (kc_inc_7 _) (by decide) rfl ?_
    refine r_goto (pc := 3273) (tgt := 18) dL_law_3273 rfl ?_
    refine r_sub [1, 2, 3, 0] rfl ?_
    exact hq18 _ _ _ _ _ _ _ _ h
  · have h := ie h c
    refine r_iconst (pc := 2035) dL_law_2035 kc_iconst_0 ?_
    cases h
def fL_law_b1961 (q18 : (Shp) → (Nat → Nat → Int32) → (Nat → Nat → Int64) → (Nat → Nat → UInt64) → (Nat → Nat → Option Nat) → (Option Nat) → (Option Nat) → (Int32) → (Option (Unit))) (xs : Nat → Int32) (Lg : Nat) (σ : Shp) (I : Nat → Nat → Int32) (J : Nat → Nat → Int64) (D : Nat → Nat → UInt64) (R : Nat → Nat → Option Nat) (x1 : Option Nat) (x2 : Option Nat) (x3 : Int32) : Option Unit :=
  if ¬ ((x3 + (1 : Int32)) < 0 ∨ Lg ≤ Int32.toNatClampNeg (x3 + (1 : Int32))) then
  if ¬ ((x3 + (2 : Int32)) < 0 ∨ Lg ≤ Int32.toNatClampNeg (x3 + (2 : Int32))) then
  (x1 : Option Nat).bind fun a564 =>
  if kdx σ a564 = 12 then
  (fX11_valve σ I R a564 (xs (Int32.toNatClampNeg (x3 + (1 : Int32)))) (xs (Int32.toNatClampNeg (x3 + (2 : Int32))))).bind fun r566 =>
  (x2 : Option Nat).bind fun a568 =>
  if kdx σ a568 = 13 then
  (fX12_valve σ I R a568 (xs (Int32.toNatClampNeg (x3 + (1 : Int32)))) (xs (Int32.toNatClampNeg (x3 + (2 : Int32))))).bind fun r570 =>
  if r566 = r570 then
    let v572 := x3 + (7 : Int32)
    q18 σ I J D R x1 x2 v572
  else
    none
  else none
  else none
  else none
  else none
set_option maxHeartbeats 8000000 in
set_option maxRecDepth 100000 in
theorem wL_law_b1961 {G : Gx} {l : Launch} {xs : Nat → Int32} {Lg : Nat} {σ0 : Shp} {σ : Shp} {I : Nat → Nat → Int32} {J : Nat → Nat → Int64} {D : Nat → Nat → UInt64} {R : Nat → Nat → Option Nat} {q18 : (Shp) → (Nat → Nat → Int32) → (Nat → Nat → Int64) → (Nat → Nat → UInt64) → (Nat → Nat → Option Nat) → (Option Nat) → (Option Nat) → (Int32) → (Option (Unit))} {x1 : Option Nat} {x2 : Option Nat} {x3 : Int32} (hq18 : ∀ (σ : Shp) (I : Nat → Nat → Int32) (J : Nat → Nat → Int64) (D : Nat → Nat → UInt64) (R : Nat → Nat → Option Nat) (x1 : Option Nat) (x2 : Option Nat) (x3 : Int32), q18 σ I J D R x1 x2 x3 = some () → WLaw G l xs Lg σ0 (σ, I, J, D, R) 18 [(0, vR (some 3)), (1, vR x1), (2, vR x2), (3, vI x3)] []) (h : fL_law_b1961 q18 xs Lg σ I J D R x1 x2 x3 = some ()) : WLaw G l xs Lg σ0 (σ, I, J, D, R) 1961 [(0, vR (some 3)), (1, vR x1), (2, vR x2), (3, vI x3)] [] := by
  unfold fL_law_b1961 at h
  refine r_aload_n (pc := 1961) dL_law_1961 rfl 1 rfl ?_
  refine r_aload_n (pc := 1962) dL_law_1962 rfl 0 rfl ?_
  refine r_iload_n (pc := 1963) dL_law_1963 rfl 3 rfl ?_
  refine r_iconst (pc := 1964) dL_law_1964 kc_iconst_1 ?_
  refine r_iadd (pc := 1965) dL_law_1965 ?_
  obtain ⟨g562, h⟩ := gd h
  refine r_scld (pc := 1966) dL_law_1966 g562 ?_
  refine r_aload_n (pc := 1967) dL_law_1967 rfl 0 rfl ?_
  refine r_iload_n (pc := 1968) dL_law_1968 rfl 3 rfl ?_
  refine r_iconst (pc := 1969) dL_law_1969 kc_iconst_2 ?_
  refine r_iadd (pc := 1970) dL_law_1970 ?_
  obtain ⟨g563, h⟩ := gd h
  refine r_scld (pc := 1971) dL_law_1971 g563 ?_
  obtain ⟨a564, ha564, h⟩ := ob h
  refine r_ref2 ha564 ?_
  obtain ⟨g565, h⟩ := gd h
  obtain ⟨r566, hc567, h⟩ := ob h
  refine r_callV1 (pc := 1972) (av := [vI (xs (Int32.toNatClampNeg (x3 + (1 : Int32)))), vI (xs (Int32.toNatClampNeg (x3 + (2 : Int32))))]) (S := []) dL_law_1972 (kX11_valve hc567) g565 rfl mkL_180 mwX11_valve rfl ⟨Nat.le_of_ble_eq_true rfl, Nat.le_of_ble_eq_true rfl⟩ (Nat.le_of_ble_eq_true rfl) ⟨Nat.le_refl _, Nat.le_refl _⟩ (fun b => b) ?_
  refine r_aload_n (pc := 1975) dL_law_1975 rfl 2 rfl ?_
  refine r_aload_n (pc := 1976) dL_law_1976 rfl 0 rfl ?_
  refine r_iload_n (pc := 1977) dL_law_1977 rfl 3 rfl ?_
  refine r_iconst (pc := 1978) dL_law_1978 kc_iconst_1 ?_
  refine r_iadd (pc := 1979) dL_law_1979 ?_
  refine r_scld (pc := 1980) dL_law_1980 g562 ?_
  refine r_aload_n (pc := 1981) dL_law_1981 rfl 0 rfl ?_
  refine r_iload_n (pc := 1982) dL_law_1982 rfl 3 rfl ?_
  refine r_iconst (pc := 1983) dL_law_1983 kc_iconst_2 ?_
  refine r_iadd (pc := 1984) dL_law_1984 ?_
  refine r_scld (pc := 1985) dL_law_1985 g563 ?_
  obtain ⟨a568, ha568, h⟩ := ob h
  refine r_ref2 ha568 ?_
  obtain ⟨g569, h⟩ := gd h
  obtain ⟨r570, hc571, h⟩ := ob h
  refine r_callV1 (pc := 1986) (av := [vI (xs (Int32.toNatClampNeg (x3 + (1 : Int32)))), vI (xs (Int32.toNatClampNeg (x3 + (2 : Int32))))]) (S := [vI r566]) dL_law_1986 (kX12_valve hc571) g569 rfl mkL_183 mwX12_valve rfl ⟨Nat.le_of_ble_eq_true rfl, Nat.le_of_ble_eq_true rfl⟩ (Nat.le_of_ble_eq_true rfl) ⟨Nat.le_refl _, Nat.le_refl _⟩ (fun b => b) ?_
  refine r_icmp_eq (pc := 1989) (tgt := 3270) dL_law_1989 rfl (fun c => ?_) (fun c => ?_)
  · have h := it h c
    refine r_iinc (pc := 3270) (v := (x3 + (7 : Int32))) (L' := [(3, vI (x3 + (7 : Int32))), (0, vR (some 3)), (1, vR x1), (2, vR x2)]) dL_law_3270 3 rfl (kc_inc_7 _) (by decide) rfl ?_
    refine r_goto (pc := 3273) (tgt := 18) dL_law_3273 rfl ?_
    refine r_sub [1, 2, 3, 0] rfl ?_
    exact hq18 _ _ _ _ _ _ _ _ h
  · have h := ie h c
    refine r_iconst (pc := 1992) dL_law_1992 kc_iconst_0 ?_
    cases h
def fL_law_b1898 (q18 : (Shp) → (Nat → Nat → Int32) → (Nat → Nat → Int64) → (Nat → Nat → UInt64) → (Nat → Nat → Option Nat) → (Option Nat) → (Option Nat) → (Int32) → (Option (Unit))) (xs : Nat → Int32) (Lg : Nat) (σ : Shp) (I : Nat → Nat → Int32) (J : Nat → Nat → Int64) (D : Nat → Nat → UInt64) (R : Nat → Nat → Option Nat) (x1 : Option Nat) (x2 : Option Nat) (x3 : Int32) : Option Unit :=
  if ¬ ((x3 + (1 : Int32)) < 0 ∨ Lg ≤ Int32.toNatClampNeg (x3 + (1 : Int32))) then
  if ¬ ((x3 + (2 : Int32)) < 0 ∨ Lg ≤ Int32.toNatClampNeg (x3 + (2 : Int32))) then
  if ¬ ((x3 + (3 : Int32)) < 0 ∨ Lg ≤ Int32.toNatClampNeg (x3 + (3 : Int32))) then
  (x1 : Option Nat).bind fun a576 =>
  if kdx σ a576 = 12 then
  (fX11_setStock σ J R a576 (xs (Int32.toNatClampNeg (x3 + (1 : Int32)))) (((Int32.toInt64 (xs (Int32.toNatClampNeg (x3 + (2 : Int32))))) <<< (Int32.toInt64 (32 : Int32) &&& 63)) ||| ((Int32.toInt64 (xs (Int32.toNatClampNeg (x3 + (3 : Int32))))) &&& (4294967295 : Int64)))).bind fun (J578, r579) =>
  (x2 : Option Nat).bind fun a581 =>
  if kdx σ a581 = 13 then
  (fX12_setStock σ J578 R a581 (xs (Int32.toNatClampNeg (x3 + (1 : Int32)))) (((Int32.toInt64 (xs (Int32.toNatClampNeg (x3 + (2 : Int32))))) <<< (Int32.toInt64 (32 : Int32) &&& 63)) ||| ((Int32.toInt64 (xs (Int32.toNatClampNeg (x3 + (3 : Int32))))) &&& (4294967295 : Int64)))).bind fun (J583, r584) =>
  if r579 = r584 then
    let v586 := x3 + (7 : Int32)
    q18 σ I J583 D R x1 x2 v586
  else
    none
  else none
  else none
  else none
  else none
  else none
set_option maxHeartbeats 8000000 in
set_option maxRecDepth 100000 in
theorem wL_law_b1898 {G : Gx} {l : Launch} {xs : Nat → Int32} {Lg : Nat} {σ0 : Shp} {σ : Shp} {I : Nat → Nat → Int32} {J : Nat → Nat → Int64} {D : Nat → Nat → UInt64} {R : Nat → Nat → Option Nat} {q18 : (Shp) → (Nat → Nat → Int32) → (Nat → Nat → Int64) → (Nat → Nat → UInt64) → (Nat → Nat → Option Nat) → (Option Nat) → (Option Nat) → (Int32) → (Option (Unit))} {x1 : Option Nat} {x2 : Option Nat} {x3 : Int32} (hq18 : ∀ (σ : Shp) (I : Nat → Nat → Int32) (J : Nat → Nat → Int64) (D : Nat → Nat → UInt64) (R : Nat → Nat → Option Nat) (x1 : Option Nat) (x2 : Option Nat) (x3 : Int32), q18 σ I J D R x1 x2 x3 = some () → WLaw G l xs Lg σ0 (σ, I, J, D, R) 18 [(0, vR (some 3)), (1, vR x1), (2, vR x2), (3, vI x3)] []) (h : fL_law_b1898 q18 xs Lg σ I J D R x1 x2 x3 = some ()) : WLaw G l xs Lg σ0 (σ, I, J, D, R) 1898 [(0, vR (some 3)), (1, vR x1), (2, vR x2), (3, vI x3)] [] := by
  unfold fL_law_b1898 at h
  refine r_aload_n (pc := 1898) dL_law_1898 rfl 1 rfl ?_
  refine r_aload_n (pc := 1899) dL_law_1899 rfl 0 rfl ?_
  refine r_iload_n (pc := 1900) dL_law_1900 rfl 3 rfl ?_
  refine r_iconst (pc := 1901) dL_law_1901 kc_iconst_1 ?_
  refine r_iadd (pc := 1902) dL_law_1902 ?_
  obtain ⟨g573, h⟩ := gd h
  refine r_scld (pc := 1903) dL_law_1903 g573 ?_
  refine r_aload_n (pc := 1904) dL_law_1904 rfl 0 rfl ?_
  refine r_iload_n (pc := 1905) dL_law_1905 rfl 3 rfl ?_
  refine r_iconst (pc := 1906) dL_law_1906 kc_iconst_2 ?_
  refine r_iadd (pc := 1907) dL_law_1907 ?_
  obtain ⟨g574, h⟩ := gd h
  refine r_scld (pc := 1908) dL_law_1908 g574 ?_
  refine r_i2l (pc := 1909) dL_law_1909 ?_
  refine r_bipush (pc := 1910) dL_law_1910 kc_bipush_32 ?_
  refine r_lshl (pc := 1912) dL_law_1912 ?_
  refine r_aload_n (pc := 1913) dL_law_1913 rfl 0 rfl ?_
  refine r_iload_n (pc := 1914) dL_law_1914 rfl 3 rfl ?_
  refine r_iconst (pc := 1915) dL_law_1915 kc_iconst_3 ?_
  refine r_iadd (pc := 1916) dL_law_1916 ?_
  obtain ⟨g575, h⟩ := gd h
  refine r_scld (pc := 1917) dL_law_1917 g575 ?_
  refine r_i2l (pc := 1918) dL_law_1918 ?_
  refine r_ldc2 (pc := 1919) dL_law_1919 clL_46 ?_
  refine r_land (pc := 1922) dL_law_1922 ?_
  refine r_lor (pc := 1923) dL_law_1923 ?_
  obtain ⟨a576, ha576, h⟩ := ob h
  refine r_ref2 ha576 ?_
  obtain ⟨g577, h⟩ := gd h
  obtain ⟨⟨J578, r579⟩, hc580, h⟩ := ob h
  refine r_callV1 (pc := 1924) (av := [vI (xs (Int32.toNatClampNeg (x3 + (1 : Int32)))), vL (((Int32.toInt64 (xs (Int32.toNatClampNeg (x3 + (2 : Int32))))) <<< (Int32.toInt64 (32 : Int32) &&& 63)) ||| ((Int32.toInt64 (xs (Int32.toNatClampNeg (x3 + (3 : Int32))))) &&& (4294967295 : Int64)))]) (S := []) dL_law_1924 (kX11_setStock hc580) g577 rfl mkL_175 mwX11_setStock rfl ⟨Nat.le_of_ble_eq_true rfl, Nat.le_of_ble_eq_true rfl⟩ (Nat.le_of_ble_eq_true rfl) ⟨Nat.le_refl _, Nat.le_refl _⟩ (fun b => b) ?_
  refine r_aload_n (pc := 1927) dL_law_1927 rfl 2 rfl ?_
  refine r_aload_n (pc := 1928) dL_law_1928 rfl 0 rfl ?_
  refine r_iload_n (pc := 1929) dL_law_1929 rfl 3 rfl ?_
  refine r_iconst (pc := 1930) dL_law_1930 kc_iconst_1 ?_
  refine r_iadd (pc := 1931) dL_law_1931 ?_
  refine r_scld (pc := 1932) dL_law_1932 g573 ?_
  refine r_aload_n (pc := 1933) dL_law_1933 rfl 0 rfl ?_
  refine r_iload_n (pc := 1934) dL_law_1934 rfl 3 rfl ?_
  refine r_iconst (pc := 1935) dL_law_1935 kc_iconst_2 ?_
  refine r_iadd (pc := 1936) dL_law_1936 ?_
  refine r_scld (pc := 1937) dL_law_1937 g574 ?_
  refine r_i2l (pc := 1938) dL_law_1938 ?_
  refine r_bipush (pc := 1939) dL_law_1939 kc_bipush_32 ?_
  refine r_lshl (pc := 1941) dL_law_1941 ?_
  refine r_aload_n (pc := 1942) dL_law_1942 rfl 0 rfl ?_
  refine r_iload_n (pc := 1943) dL_law_1943 rfl 3 rfl ?_
  refine r_iconst (pc := 1944) dL_law_1944 kc_iconst_3 ?_
  refine r_iadd (pc := 1945) dL_law_1945 ?_
  refine r_scld (pc := 1946) dL_law_1946 g575 ?_
  refine r_i2l (pc := 1947) dL_law_1947 ?_
  refine r_ldc2 (pc := 1948) dL_law_1948 clL_46 ?_
  refine r_land (pc := 1951) dL_law_1951 ?_
  refine r_lor (pc := 1952) dL_law_1952 ?_
  obtain ⟨a581, ha581, h⟩ := ob h
  refine r_ref2 ha581 ?_
  obtain ⟨g582, h⟩ := gd h
  obtain ⟨⟨J583, r584⟩, hc585, h⟩ := ob h
  refine r_callV1 (pc := 1953) (av := [vI (xs (Int32.toNatClampNeg (x3 + (1 : Int32)))), vL (((Int32.toInt64 (xs (Int32.toNatClampNeg (x3 + (2 : Int32))))) <<< (Int32.toInt64 (32 : Int32) &&& 63)) ||| ((Int32.toInt64 (xs (Int32.toNatClampNeg (x3 + (3 : Int32))))) &&& (4294967295 : Int64)))]) (S := [vI r579]) dL_law_1953 (kX12_setStock hc585) g582 rfl mkL_179 mwX12_setStock rfl ⟨Nat.le_of_ble_eq_true rfl, Nat.le_of_ble_eq_true rfl⟩ (Nat.le_of_ble_eq_true rfl) ⟨Nat.le_refl _, Nat.le_refl _⟩ (fun b => b) ?_
  refine r_icmp_eq (pc := 1956) (tgt := 3270) dL_law_1956 rfl (fun c => ?_) (fun c => ?_)
  · have h := it h c
    refine r_iinc (pc := 3270) (v := (x3 + (7 : Int32))) (L' := [(3, vI (x3 + (7 : Int32))), (0, vR (some 3)), (1, vR x1), (2, vR x2)]) dL_law_3270 3 rfl (kc_inc_7 _) (by decide) rfl ?_
    refine r_goto (pc := 3273) (tgt := 18) dL_law_3273 rfl ?_
    refine r_sub [1, 2, 3, 0] rfl ?_
    exact hq18 _ _ _ _ _ _ _ _ h
  · have h := ie h c
    refine r_iconst (pc := 1959) dL_law_1959 kc_iconst_0 ?_
    cases h
def fL_law_b1874 (q18 : (Shp) → (Nat → Nat → Int32) → (Nat → Nat → Int64) → (Nat → Nat → UInt64) → (Nat → Nat → Option Nat) → (Option Nat) → (Option Nat) → (Int32) → (Option (Unit))) (xs : Nat → Int32) (Lg : Nat) (σ : Shp) (I : Nat → Nat → Int32) (J : Nat → Nat → Int64) (D : Nat → Nat → UInt64) (R : Nat → Nat → Option Nat) (x1 : Option Nat) (x2 : Option Nat) (x3 : Int32) : Option Unit :=
  if ¬ ((x3 + (1 : Int32)) < 0 ∨ Lg ≤ Int32.toNatClampNeg (x3 + (1 : Int32))) then
  (x1 : Option Nat).bind fun a588 =>
  if kdx σ a588 = 12 then
  (fX11_stock σ J R a588 (xs (Int32.toNatClampNeg (x3 + (1 : Int32))))).bind fun r590 =>
  (x2 : Option Nat).bind fun a592 =>
  if kdx σ a592 = 13 then
  (fX12_stock σ J R a592 (xs (Int32.toNatClampNeg (x3 + (1 : Int32))))).bind fun r594 =>
  if r590 = r594 then
    let v596 := x3 + (7 : Int32)
    q18 σ I J D R x1 x2 v596
  else
    none
  else none
  else none
  else none
set_option maxHeartbeats 8000000 in
set_option maxRecDepth 100000 in
theorem wL_law_b1874 {G : Gx} {l : Launch} {xs : Nat → Int32} {Lg : Nat} {σ0 : Shp} {σ : Shp} {I : Nat → Nat → Int32} {J : Nat → Nat → Int64} {D : Nat → Nat → UInt64} {R : Nat → Nat → Option Nat} {q18 : (Shp) → (Nat → Nat → Int32) → (Nat → Nat → Int64) → (Nat → Nat → UInt64) → (Nat → Nat → Option Nat) → (Option Nat) → (Option Nat) → (Int32) → (Option (Unit))} {x1 : Option Nat} {x2 : Option Nat} {x3 : Int32} (hq18 : ∀ (σ : Shp) (I : Nat → Nat → Int32) (J : Nat → Nat → Int64) (D : Nat → Nat → UInt64) (R : Nat → Nat → Option Nat) (x1 : Option Nat) (x2 : Option Nat) (x3 : Int32), q18 σ I J D R x1 x2 x3 = some () → WLaw G l xs Lg σ0 (σ, I, J, D, R) 18 [(0, vR (some 3)), (1, vR x1), (2, vR x2), (3, vI x3)] []) (h : fL_law_b1874 q18 xs Lg σ I J D R x1 x2 x3 = some ()) : WLaw G l xs Lg σ0 (σ, I, J, D, R) 1874 [(0, vR (some 3)), (1, vR x1), (2, vR x2), (3, vI x3)] [] := by
  unfold fL_law_b1874 at h
  refine r_aload_n (pc := 1874) dL_law_1874 rfl 1 rfl ?_
  refine r_aload_n (pc := 1875) dL_law_1875 rfl 0 rfl ?_
  refine r_iload_n (pc := 1876) dL_law_1876 rfl 3 rfl ?_
  refine r_iconst (pc := 1877) dL_law_1877 kc_iconst_1 ?_
  refine r_iadd (pc := 1878) dL_law_1878 ?_
  obtain ⟨g587, h⟩ := gd h
  refine r_scld (pc := 1879) dL_law_1879 g587 ?_
  obtain ⟨a588, ha588, h⟩ := ob h
  refine r_ref1 ha588 ?_
  obtain ⟨g589, h⟩ := gd h
  obtain ⟨r590, hc591, h⟩ := ob h
  refine r_callV1 (pc := 1880) (av := [vI (xs (Int32.toNatClampNeg (x3 + (1 : Int32))))]) (S := []) dL_law_1880 (kX11_stock hc591) g589 rfl mkL_170 mwX11_stock rfl ⟨Nat.le_of_ble_eq_true rfl, Nat.le_of_ble_eq_true rfl⟩ (Nat.le_of_ble_eq_true rfl) ⟨Nat.le_refl _, Nat.le_refl _⟩ (fun b => b) ?_
  refine r_aload_n (pc := 1883) dL_law_1883 rfl 2 rfl ?_
  refine r_aload_n (pc := 1884) dL_law_1884 rfl 0 rfl ?_
  refine r_iload_n (pc := 1885) dL_law_1885 rfl 3 rfl ?_
  refine r_iconst (pc := 1886) dL_law_1886 kc_iconst_1 ?_
  refine r_iadd (pc := 1887) dL_law_1887 ?_
  refine r_scld (pc := 1888) dL_law_1888 g587 ?_
  obtain ⟨a592, ha592, h⟩ := ob h
  refine r_ref1 ha592 ?_
  obtain ⟨g593, h⟩ := gd h
  obtain ⟨r594, hc595, h⟩ := ob h
  refine r_callV1 (pc := 1889) (av := [vI (xs (Int32.toNatClampNeg (x3 + (1 : Int32))))]) (S := [vL r590]) dL_law_1889 (kX12_stock hc595) g593 rfl mkL_174 mwX12_stock rfl ⟨Nat.le_of_ble_eq_true rfl, Nat.le_of_ble_eq_true rfl⟩ (Nat.le_of_ble_eq_true rfl) ⟨Nat.le_refl _, Nat.le_refl _⟩ (fun b => b) ?_
  refine r_lcmp (pc := 1892) dL_law_1892 ?_
  refine r_if_eq (pc := 1893) (tgt := 3270) dL_law_1893 rfl (fun c => ?_) (fun c => ?_)
  · have h := it h (lgc_eq.mp c)
    refine r_iinc (pc := 3270) (v := (x3 + (7 : Int32))) (L' := [(3, vI (x3 + (7 : Int32))), (0, vR (some 3)), (1, vR x1), (2, vR x2)]) dL_law_3270 3 rfl (kc_inc_7 _) (by decide) rfl ?_
    refine r_goto (pc := 3273) (tgt := 18) dL_law_3273 rfl ?_
    refine r_sub [1, 2, 3, 0] rfl ?_
    exact hq18 _ _ _ _ _ _ _ _ h
  · have h := ie h (fun q => c (lgc_eq.mpr q))
    refine r_iconst (pc := 1896) dL_law_1896 kc_iconst_0 ?_
    cases h
def fL_law_b1851 (q18 : (Shp) → (Nat → Nat → Int32) → (Nat → Nat → Int64) → (Nat → Nat → UInt64) → (Nat → Nat → Option Nat) → (Option Nat) → (Option Nat) → (Int32) → (Option (Unit))) (xs : Nat → Int32) (Lg : Nat) (σ : Shp) (I : Nat → Nat → Int32) (J : Nat → Nat → Int64) (D : Nat → Nat → UInt64) (R : Nat → Nat → Option Nat) (x1 : Option Nat) (x2 : Option Nat) (x3 : Int32) : Option Unit :=
  if ¬ ((x3 + (1 : Int32)) < 0 ∨ Lg ≤ Int32.toNatClampNeg (x3 + (1 : Int32))) then
  (x1 : Option Nat).bind fun a598 =>
  if kdx σ a598 = 12 then
  (fX11_ran σ I R a598 (xs (Int32.toNatClampNeg (x3 + (1 : Int32))))).bind fun r600 =>
  (x2 : Option Nat).bind fun a602 =>
  if kdx σ a602 = 13 then
  (fX12_ran σ I a602 (xs (Int32.toNatClampNeg (x3 + (1 : Int32))))).bind fun r604 =>
  if r600 = r604 then
    let v606 := x3 + (7 : Int32)
    q18 σ I J D R x1 x2 v606
  else
    none
  else none
  else none
  else none
set_option maxHeartbeats 8000000 in
set_option maxRecDepth 100000 in
theorem wL_law_b1851 {G : Gx} {l : Launch} {xs : Nat → Int32} {Lg : Nat} {σ0 : Shp} {σ : Shp} {I : Nat → Nat → Int32} {J : Nat → Nat → Int64} {D : Nat → Nat → UInt64} {R : Nat → Nat → Option Nat} {q18 : (Shp) → (Nat → Nat → Int32) → (Nat → Nat → Int64) → (Nat → Nat → UInt64) → (Nat → Nat → Option Nat) → (Option Nat) → (Option Nat) → (Int32) → (Option (Unit))} {x1 : Option Nat} {x2 : Option Nat} {x3 : Int32} (hq18 : ∀ (σ : Shp) (I : Nat → Nat → Int32) (J : Nat → Nat → Int64) (D : Nat → Nat → UInt64) (R : Nat → Nat → Option Nat) (x1 : Option Nat) (x2 : Option Nat) (x3 : Int32), q18 σ I J D R x1 x2 x3 = some () → WLaw G l xs Lg σ0 (σ, I, J, D, R) 18 [(0, vR (some 3)), (1, vR x1), (2, vR x2), (3, vI x3)] []) (h : fL_law_b1851 q18 xs Lg σ I J D R x1 x2 x3 = some ()) : WLaw G l xs Lg σ0 (σ, I, J, D, R) 1851 [(0, vR (some 3)), (1, vR x1), (2, vR x2), (3, vI x3)] [] := by
  unfold fL_law_b1851 at h
  refine r_aload_n (pc := 1851) dL_law_1851 rfl 1 rfl ?_
  refine r_aload_n (pc := 1852) dL_law_1852 rfl 0 rfl ?_
  refine r_iload_n (pc := 1853) dL_law_1853 rfl 3 rfl ?_
  refine r_iconst (pc := 1854) dL_law_1854 kc_iconst_1 ?_
  refine r_iadd (pc := 1855) dL_law_1855 ?_
  obtain ⟨g597, h⟩ := gd h
  refine r_scld (pc := 1856) dL_law_1856 g597 ?_
  obtain ⟨a598, ha598, h⟩ := ob h
  refine r_ref1 ha598 ?_
  obtain ⟨g599, h⟩ := gd h
  obtain ⟨r600, hc601, h⟩ := ob h
  refine r_callV1 (pc := 1857) (av := [vI (xs (Int32.toNatClampNeg (x3 + (1 : Int32))))]) (S := []) dL_law_1857 (kX11_ran hc601) g599 rfl mkL_166 mwX11_ran rfl ⟨Nat.le_of_ble_eq_true rfl, Nat.le_of_ble_eq_true rfl⟩ (Nat.le_of_ble_eq_true rfl) ⟨Nat.le_refl _, Nat.le_refl _⟩ (fun b => b) ?_
  refine r_aload_n (pc := 1860) dL_law_1860 rfl 2 rfl ?_
  refine r_aload_n (pc := 1861) dL_law_1861 rfl 0 rfl ?_
  refine r_iload_n (pc := 1862) dL_law_1862 rfl 3 rfl ?_
  refine r_iconst (pc := 1863) dL_law_1863 kc_iconst_1 ?_
  refine r_iadd (pc := 1864) dL_law_1864 ?_
  refine r_scld (pc := 1865) dL_law_1865 g597 ?_
  obtain ⟨a602, ha602, h⟩ := ob h
  refine r_ref1 ha602 ?_
  obtain ⟨g603, h⟩ := gd h
  obtain ⟨r604, hc605, h⟩ := ob h
  refine r_callV1 (pc := 1866) (av := [vI (xs (Int32.toNatClampNeg (x3 + (1 : Int32))))]) (S := [vI r600]) dL_law_1866 (kX12_ran hc605) g603 rfl mkL_169 mwX12_ran rfl ⟨Nat.le_of_ble_eq_true rfl, Nat.le_of_ble_eq_true rfl⟩ (Nat.le_of_ble_eq_true rfl) ⟨Nat.le_refl _, Nat.le_refl _⟩ (fun b => b) ?_
  refine r_icmp_eq (pc := 1869) (tgt := 3270) dL_law_1869 rfl (fun c => ?_) (fun c => ?_)
  · have h := it h c
    refine r_iinc (pc := 3270) (v := (x3 + (7 : Int32))) (L' := [(3, vI (x3 + (7 : Int32))), (0, vR (some 3)), (1, vR x1), (2, vR x2)]) dL_law_3270 3 rfl (kc_inc_7 _) (by decide) rfl ?_
    refine r_goto (pc := 3273) (tgt := 18) dL_law_3273 rfl ?_
    refine r_sub [1, 2, 3, 0] rfl ?_
    exact hq18 _ _ _ _ _ _ _ _ h
  · have h := ie h c
    refine r_iconst (pc := 1872) dL_law_1872 kc_iconst_0 ?_
    cases h
def fL_law_b1828 (q18 : (Shp) → (Nat → Nat → Int32) → (Nat → Nat → Int64) → (Nat → Nat → UInt64) → (Nat → Nat → Option Nat) → (Option Nat) → (Option Nat) → (Int32) → (Option (Unit))) (xs : Nat → Int32) (Lg : Nat) (σ : Shp) (I : Nat → Nat → Int32) (J : Nat → Nat → Int64) (D : Nat → Nat → UInt64) (R : Nat → Nat → Option Nat) (x1 : Option Nat) (x2 : Option Nat) (x3 : Int32) : Option Unit :=
  if ¬ ((x3 + (1 : Int32)) < 0 ∨ Lg ≤ Int32.toNatClampNeg (x3 + (1 : Int32))) then
  (x1 : Option Nat).bind fun a608 =>
  if kdx σ a608 = 12 then
  (fX11_run σ I J R a608 (xs (Int32.toNatClampNeg (x3 + (1 : Int32))))).bind fun (σ610, I611, J612, R613, r614) =>
  if nxx σ610 ≤ 600000 ∧ slx σ610 ≤ 7300000 then
  (x2 : Option Nat).bind fun a617 =>
  if kdx σ610 a617 = 13 then
  (fX12_run σ610 I611 J612 R613 a617 (xs (Int32.toNatClampNeg (x3 + (1 : Int32))))).bind fun (I619, J620, r621) =>
  if r614 = r621 then
    let v623 := x3 + (7 : Int32)
    q18 σ610 I619 J620 D R613 x1 x2 v623
  else
    none
  else none
  else none
  else none
  else none
set_option maxHeartbeats 8000000 in
set_option maxRecDepth 100000 in
theorem wL_law_b1828 {G : Gx} {l : Launch} {xs : Nat → Int32} {Lg : Nat} {σ0 : Shp} {σ : Shp} {I : Nat → Nat → Int32} {J : Nat → Nat → Int64} {D : Nat → Nat → UInt64} {R : Nat → Nat → Option Nat} {q18 : (Shp) → (Nat → Nat → Int32) → (Nat → Nat → Int64) → (Nat → Nat → UInt64) → (Nat → Nat → Option Nat) → (Option Nat) → (Option Nat) → (Int32) → (Option (Unit))} {x1 : Option Nat} {x2 : Option Nat} {x3 : Int32} (hq18 : ∀ (σ : Shp) (I : Nat → Nat → Int32) (J : Nat → Nat → Int64) (D : Nat → Nat → UInt64) (R : Nat → Nat → Option Nat) (x1 : Option Nat) (x2 : Option Nat) (x3 : Int32), q18 σ I J D R x1 x2 x3 = some () → WLaw G l xs Lg σ0 (σ, I, J, D, R) 18 [(0, vR (some 3)), (1, vR x1), (2, vR x2), (3, vI x3)] []) (h : fL_law_b1828 q18 xs Lg σ I J D R x1 x2 x3 = some ()) : WLaw G l xs Lg σ0 (σ, I, J, D, R) 1828 [(0, vR (some 3)), (1, vR x1), (2, vR x2), (3, vI x3)] [] := by
  unfold fL_law_b1828 at h
  refine r_aload_n (pc := 1828) dL_law_1828 rfl 1 rfl ?_
  refine r_aload_n (pc := 1829) dL_law_1829 rfl 0 rfl ?_
  refine r_iload_n (pc := 1830) dL_law_1830 rfl 3 rfl ?_
  refine r_iconst (pc := 1831) dL_law_1831 kc_iconst_1 ?_
  refine r_iadd (pc := 1832) dL_law_1832 ?_
  obtain ⟨g607, h⟩ := gd h
  refine r_scld (pc := 1833) dL_law_1833 g607 ?_
  obtain ⟨a608, ha608, h⟩ := ob h
  refine r_ref1 ha608 ?_
  obtain ⟨g609, h⟩ := gd h
  obtain ⟨⟨σ610, I611, J612, R613, r614⟩, hc615, h⟩ := ob h
  obtain ⟨g616, h⟩ := gd h
  refine r_callV1 (pc := 1834) (av := [vI (xs (Int32.toNatClampNeg (x3 + (1 : Int32))))]) (S := []) dL_law_1834 (kX11_run hc615) g609 rfl mkL_162 mwX11_run rfl ⟨Nat.le_of_ble_eq_true rfl, Nat.le_of_ble_eq_true rfl⟩ (Nat.le_of_ble_eq_true rfl) (mX11_run hc615) (bdL (mX11_run hc615) g616) ?_
  refine r_aload_n (pc := 1837) dL_law_1837 rfl 2 rfl ?_
  refine r_aload_n (pc := 1838) dL_law_1838 rfl 0 rfl ?_
  refine r_iload_n (pc := 1839) dL_law_1839 rfl 3 rfl ?_
  refine r_iconst (pc := 1840) dL_law_1840 kc_iconst_1 ?_
  refine r_iadd (pc := 1841) dL_law_1841 ?_
  refine r_scld (pc := 1842) dL_law_1842 g607 ?_
  obtain ⟨a617, ha617, h⟩ := ob h
  refine r_ref1 ha617 ?_
  obtain ⟨g618, h⟩ := gd h
  obtain ⟨⟨I619, J620, r621⟩, hc622, h⟩ := ob h
  refine r_callV1 (pc := 1843) (av := [vI (xs (Int32.toNatClampNeg (x3 + (1 : Int32))))]) (S := [vI r614]) dL_law_1843 (kX12_run hc622) g618 rfl mkL_165 mwX12_run rfl ⟨Nat.le_of_ble_eq_true rfl, Nat.le_of_ble_eq_true rfl⟩ (Nat.le_of_ble_eq_true rfl) ⟨Nat.le_refl _, Nat.le_refl _⟩ (fun b => b) ?_
  refine r_icmp_eq (pc := 1846) (tgt := 3270) dL_law_1846 rfl (fun c => ?_) (fun c => ?_)
  · have h := it h c
    refine r_iinc (pc := 3270) (v := (x3 + (7 : Int32))) (L' := [(3, vI (x3 + (7 : Int32))), (0, vR (some 3)), (1, vR x1), (2, vR x2)]) dL_law_3270 3 rfl (kc_inc_7 _) (by decide) rfl ?_
    refine r_goto (pc := 3273) (tgt := 18) dL_law_3273 rfl ?_
    refine r_sub [1, 2, 3, 0] rfl ?_
    exact hq18 _ _ _ _ _ _ _ _ h
  · have h := ie h c
    refine r_iconst (pc := 1849) dL_law_1849 kc_iconst_0 ?_
    cases h
def fL_law_b1805 (q18 : (Shp) → (Nat → Nat → Int32) → (Nat → Nat → Int64) → (Nat → Nat → UInt64) → (Nat → Nat → Option Nat) → (Option Nat) → (Option Nat) → (Int32) → (Option (Unit))) (xs : Nat → Int32) (Lg : Nat) (σ : Shp) (I : Nat → Nat → Int32) (J : Nat → Nat → Int64) (D : Nat → Nat → UInt64) (R : Nat → Nat → Option Nat) (x1 : Option Nat) (x2 : Option Nat) (x3 : Int32) : Option Unit :=
  if ¬ ((x3 + (1 : Int32)) < 0 ∨ Lg ≤ Int32.toNatClampNeg (x3 + (1 : Int32))) then
  (x1 : Option Nat).bind fun a625 =>
  if kdx σ a625 = 12 then
  (fX11_formed σ I R a625 (xs (Int32.toNatClampNeg (x3 + (1 : Int32))))).bind fun (I627, r628) =>
  (x2 : Option Nat).bind fun a630 =>
  if kdx σ a630 = 13 then
  (fX12_formed σ I627 R a630 (xs (Int32.toNatClampNeg (x3 + (1 : Int32))))).bind fun (I632, r633) =>
  if r628 = r633 then
    let v635 := x3 + (7 : Int32)
    q18 σ I632 J D R x1 x2 v635
  else
    none
  else none
  else none
  else none
set_option maxHeartbeats 8000000 in
set_option maxRecDepth 100000 in
theorem wL_law_b1805 {G : Gx} {l : Launch} {xs : Nat → Int32} {Lg : Nat} {σ0 : Shp} {σ : Shp} {I : Nat → Nat → Int32} {J : Nat → Nat → Int64} {D : Nat → Nat → UInt64} {R : Nat → Nat → Option Nat} {q18 : (Shp) → (Nat → Nat → Int32) → (Nat → Nat → Int64) → (Nat → Nat → UInt64) → (Nat → Nat → Option Nat) → (Option Nat) → (Option Nat) → (Int32) → (Option (Unit))} {x1 : Option Nat} {x2 : Option Nat} {x3 : Int32} (hq18 : ∀ (σ : Shp) (I : Nat → Nat → Int32) (J : Nat → Nat → Int64) (D : Nat → Nat → UInt64) (R : Nat → Nat → Option Nat) (x1 : Option Nat) (x2 : Option Nat) (x3 : Int32), q18 σ I J D R x1 x2 x3 = some () → WLaw G l xs Lg σ0 (σ, I, J, D, R) 18 [(0, vR (some 3)), (1, vR x1), (2, vR x2), (3, vI x3)] []) (h : fL_law_b1805 q18 xs Lg σ I J D R x1 x2 x3 = some ()) : WLaw G l xs Lg σ0 (σ, I, J, D, R) 1805 [(0, vR (some 3)), (1, vR x1), (2, vR x2), (3, vI x3)] [] := by
  unfold fL_law_b1805 at h
  refine r_aload_n (pc := 1805) dL_law_1805 rfl 1 rfl ?_
  refine r_aload_n (pc := 1806) dL_law_1806 rfl 0 rfl ?_
  refine r_iload_n (pc := 1807) dL_law_1807 rfl 3 rfl ?_
  refine r_iconst (pc := 1808) dL_law_1808 kc_iconst_1 ?_
  refine r_iadd (pc := 1809) dL_law_1809 ?_
  obtain ⟨g624, h⟩ := gd h
  refine r_scld (pc := 1810) dL_law_1810 g624 ?_
  obtain ⟨a625, ha625, h⟩ := ob h
  refine r_ref1 ha625 ?_
  obtain ⟨g626, h⟩ := gd h
  obtain ⟨⟨I627, r628⟩, hc629, h⟩ := ob h
  refine r_callV1 (pc := 1811) (av := [vI (xs (Int32.toNatClampNeg (x3 + (1 : Int32))))]) (S := []) dL_law_1811 (kX11_formed hc629) g626 rfl mkL_158 mwX11_formed rfl ⟨Nat.le_of_ble_eq_true rfl, Nat.le_of_ble_eq_true rfl⟩ (Nat.le_of_ble_eq_true rfl) ⟨Nat.le_refl _, Nat.le_refl _⟩ (fun b => b) ?_
  refine r_aload_n (pc := 1814) dL_law_1814 rfl 2 rfl ?_
  refine r_aload_n (pc := 1815) dL_law_1815 rfl 0 rfl ?_
  refine r_iload_n (pc := 1816) dL_law_1816 rfl 3 rfl ?_
  refine r_iconst (pc := 1817) dL_law_1817 kc_iconst_1 ?_
  refine r_iadd (pc := 1818) dL_law_1818 ?_
  refine r_scld (pc := 1819) dL_law_1819 g624 ?_
  obtain ⟨a630, ha630, h⟩ := ob h
  refine r_ref1 ha630 ?_
  obtain ⟨g631, h⟩ := gd h
  obtain ⟨⟨I632, r633⟩, hc634, h⟩ := ob h
  refine r_callV1 (pc := 1820) (av := [vI (xs (Int32.toNatClampNeg (x3 + (1 : Int32))))]) (S := [vI r628]) dL_law_1820 (kX12_formed hc634) g631 rfl mkL_161 mwX12_formed rfl ⟨Nat.le_of_ble_eq_true rfl, Nat.le_of_ble_eq_true rfl⟩ (Nat.le_of_ble_eq_true rfl) ⟨Nat.le_refl _, Nat.le_refl _⟩ (fun b => b) ?_
  refine r_icmp_eq (pc := 1823) (tgt := 3270) dL_law_1823 rfl (fun c => ?_) (fun c => ?_)
  · have h := it h c
    refine r_iinc (pc := 3270) (v := (x3 + (7 : Int32))) (L' := [(3, vI (x3 + (7 : Int32))), (0, vR (some 3)), (1, vR x1), (2, vR x2)]) dL_law_3270 3 rfl (kc_inc_7 _) (by decide) rfl ?_
    refine r_goto (pc := 3273) (tgt := 18) dL_law_3273 rfl ?_
    refine r_sub [1, 2, 3, 0] rfl ?_
    exact hq18 _ _ _ _ _ _ _ _ h
  · have h := ie h c
    refine r_iconst (pc := 1826) dL_law_1826 kc_iconst_0 ?_
    cases h
def fL_law_b1782 (q18 : (Shp) → (Nat → Nat → Int32) → (Nat → Nat → Int64) → (Nat → Nat → UInt64) → (Nat → Nat → Option Nat) → (Option Nat) → (Option Nat) → (Int32) → (Option (Unit))) (xs : Nat → Int32) (Lg : Nat) (σ : Shp) (I : Nat → Nat → Int32) (J : Nat → Nat → Int64) (D : Nat → Nat → UInt64) (R : Nat → Nat → Option Nat) (x1 : Option Nat) (x2 : Option Nat) (x3 : Int32) : Option Unit :=
  if ¬ ((x3 + (1 : Int32)) < 0 ∨ Lg ≤ Int32.toNatClampNeg (x3 + (1 : Int32))) then
  (x1 : Option Nat).bind fun a637 =>
  if kdx σ a637 = 12 then
  (fX11_drop σ I R a637 (xs (Int32.toNatClampNeg (x3 + (1 : Int32))))).bind fun (I639, r640) =>
  (x2 : Option Nat).bind fun a642 =>
  if kdx σ a642 = 13 then
  (fX12_drop σ I639 R a642 (xs (Int32.toNatClampNeg (x3 + (1 : Int32))))).bind fun (I644, r645) =>
  if r640 = r645 then
    let v647 := x3 + (7 : Int32)
    q18 σ I644 J D R x1 x2 v647
  else
    none
  else none
  else none
  else none
set_option maxHeartbeats 8000000 in
set_option maxRecDepth 100000 in
theorem wL_law_b1782 {G : Gx} {l : Launch} {xs : Nat → Int32} {Lg : Nat} {σ0 : Shp} {σ : Shp} {I : Nat → Nat → Int32} {J : Nat → Nat → Int64} {D : Nat → Nat → UInt64} {R : Nat → Nat → Option Nat} {q18 : (Shp) → (Nat → Nat → Int32) → (Nat → Nat → Int64) → (Nat → Nat → UInt64) → (Nat → Nat → Option Nat) → (Option Nat) → (Option Nat) → (Int32) → (Option (Unit))} {x1 : Option Nat} {x2 : Option Nat} {x3 : Int32} (hq18 : ∀ (σ : Shp) (I : Nat → Nat → Int32) (J : Nat → Nat → Int64) (D : Nat → Nat → UInt64) (R : Nat → Nat → Option Nat) (x1 : Option Nat) (x2 : Option Nat) (x3 : Int32), q18 σ I J D R x1 x2 x3 = some () → WLaw G l xs Lg σ0 (σ, I, J, D, R) 18 [(0, vR (some 3)), (1, vR x1), (2, vR x2), (3, vI x3)] []) (h : fL_law_b1782 q18 xs Lg σ I J D R x1 x2 x3 = some ()) : WLaw G l xs Lg σ0 (σ, I, J, D, R) 1782 [(0, vR (some 3)), (1, vR x1), (2, vR x2), (3, vI x3)] [] := by
  unfold fL_law_b1782 at h
  refine r_aload_n (pc := 1782) dL_law_1782 rfl 1 rfl ?_
  refine r_aload_n (pc := 1783) dL_law_1783 rfl 0 rfl ?_
  refine r_iload_n (pc := 1784) dL_law_1784 rfl 3 rfl ?_
  refine r_iconst (pc := 1785) dL_law_1785 kc_iconst_1 ?_
  refine r_iadd (pc := 1786) dL_law_1786 ?_
  obtain ⟨g636, h⟩ := gd h
  refine r_scld (pc := 1787) dL_law_1787 g636 ?_
  obtain ⟨a637, ha637, h⟩ := ob h
  refine r_ref1 ha637 ?_
  obtain ⟨g638, h⟩ := gd h
  obtain ⟨⟨I639, r640⟩, hc641, h⟩ := ob h
  refine r_callV1 (pc := 1788) (av := [vI (xs (Int32.toNatClampNeg (x3 + (1 : Int32))))]) (S := []) dL_law_1788 (kX11_drop hc641) g638 rfl mkL_154 mwX11_drop rfl ⟨Nat.le_of_ble_eq_true rfl, Nat.le_of_ble_eq_true rfl⟩ (Nat.le_of_ble_eq_true rfl) ⟨Nat.le_refl _, Nat.le_refl _⟩ (fun b => b) ?_
  refine r_aload_n (pc := 1791) dL_law_1791 rfl 2 rfl ?_
  refine r_aload_n (pc := 1792) dL_law_1792 rfl 0 rfl ?_
  refine r_iload_n (pc := 1793) dL_law_1793 rfl 3 rfl ?_
  refine r_iconst (pc := 1794) dL_law_1794 kc_iconst_1 ?_
  refine r_iadd (pc := 1795) dL_law_1795 ?_
  refine r_scld (pc := 1796) dL_law_1796 g636 ?_
  obtain ⟨a642, ha642, h⟩ := ob h
  refine r_ref1 ha642 ?_
  obtain ⟨g643, h⟩ := gd h
  obtain ⟨⟨I644, r645⟩, hc646, h⟩ := ob h
  refine r_callV1 (pc := 1797) (av := [vI (xs (Int32.toNatClampNeg (x3 + (1 : Int32))))]) (S := [vI r640]) dL_law_1797 (kX12_drop hc646) g643 rfl mkL_157 mwX12_drop rfl ⟨Nat.le_of_ble_eq_true rfl, Nat.le_of_ble_eq_true rfl⟩ (Nat.le_of_ble_eq_true rfl) ⟨Nat.le_refl _, Nat.le_refl _⟩ (fun b => b) ?_
  refine r_icmp_eq (pc := 1800) (tgt := 3270) dL_law_1800 rfl (fun c => ?_) (fun c => ?_)
  · have h := it h c
    refine r_iinc (pc := 3270) (v := (x3 + (7 : Int32))) (L' := [(3, vI (x3 + (7 : Int32))), (0, vR (some 3)), (1, vR x1), (2, vR x2)]) dL_law_3270 3 rfl (kc_inc_7 _) (by decide) rfl ?_
    refine r_goto (pc := 3273) (tgt := 18) dL_law_3273 rfl ?_
    refine r_sub [1, 2, 3, 0] rfl ?_
    exact hq18 _ _ _ _ _ _ _ _ h
  · have h := ie h c
    refine r_iconst (pc := 1803) dL_law_1803 kc_iconst_0 ?_
    cases h
def fL_law_b1719 (q18 : (Shp) → (Nat → Nat → Int32) → (Nat → Nat → Int64) → (Nat → Nat → UInt64) → (Nat → Nat → Option Nat) → (Option Nat) → (Option Nat) → (Int32) → (Option (Unit))) (xs : Nat → Int32) (Lg : Nat) (σ : Shp) (I : Nat → Nat → Int32) (J : Nat → Nat → Int64) (D : Nat → Nat → UInt64) (R : Nat → Nat → Option Nat) (x1 : Option Nat) (x2 : Option Nat) (x3 : Int32) : Option Unit :=
  if ¬ ((x3 + (1 : Int32)) < 0 ∨ Lg ≤ Int32.toNatClampNeg (x3 + (1 : Int32))) then
  if ¬ ((x3 + (2 : Int32)) < 0 ∨ Lg ≤ Int32.toNatClampNeg (x3 + (2 : Int32))) then
  if ¬ ((x3 + (3 : Int32)) < 0 ∨ Lg ≤ Int32.toNatClampNeg (x3 + (3 : Int32))) then
  if ¬ ((x3 + (4 : Int32)) < 0 ∨ Lg ≤ Int32.toNatClampNeg (x3 + (4 : Int32))) then
  if ¬ ((x3 + (5 : Int32)) < 0 ∨ Lg ≤ Int32.toNatClampNeg (x3 + (5 : Int32))) then
  (x1 : Option Nat).bind fun a653 =>
  if kdx σ a653 = 12 then
  (fX11_step σ I R a653 (xs (Int32.toNatClampNeg (x3 + (1 : Int32)))) (xs (Int32.toNatClampNeg (x3 + (2 : Int32)))) (xs (Int32.toNatClampNeg (x3 + (3 : Int32)))) (xs (Int32.toNatClampNeg (x3 + (4 : Int32)))) (xs (Int32.toNatClampNeg (x3 + (5 : Int32))))).bind fun (I655, r656) =>
  (x2 : Option Nat).bind fun a658 =>
  if kdx σ a658 = 13 then
  (fX12_step σ I655 R a658 (xs (Int32.toNatClampNeg (x3 + (1 : Int32)))) (xs (Int32.toNatClampNeg (x3 + (2 : Int32)))) (xs (Int32.toNatClampNeg (x3 + (3 : Int32)))) (xs (Int32.toNatClampNeg (x3 + (4 : Int32)))) (xs (Int32.toNatClampNeg (x3 + (5 : Int32))))).bind fun (I660, r661) =>
  if r656 = r661 then
    let v663 := x3 + (7 : Int32)
    q18 σ I660 J D R x1 x2 v663
  else
    none
  else none
  else none
  else none
  else none
  else none
  else none
  else none
set_option maxHeartbeats 8000000 in
set_option maxRecDepth 100000 in
theorem wL_law_b1719 {G : Gx} {l : Launch} {xs : Nat → Int32} {Lg : Nat} {σ0 : Shp} {σ : Shp} {I : Nat → Nat → Int32} {J : Nat → Nat → Int64} {D : Nat → Nat → UInt64} {R : Nat → Nat → Option Nat} {q18 : (Shp) → (Nat → Nat → Int32) → (Nat → Nat → Int64) → (Nat → Nat → UInt64) → (Nat → Nat → Option Nat) → (Option Nat) → (Option Nat) → (Int32) → (Option (Unit))} {x1 : Option Nat} {x2 : Option Nat} {x3 : Int32} (hq18 : ∀ (σ : Shp) (I : Nat → Nat → Int32) (J : Nat → Nat → Int64) (D : Nat → Nat → UInt64) (R : Nat → Nat → Option Nat) (x1 : Option Nat) (x2 : Option Nat) (x3 : Int32), q18 σ I J D R x1 x2 x3 = some () → WLaw G l xs Lg σ0 (σ, I, J, D, R) 18 [(0, vR (some 3)), (1, vR x1), (2, vR x2), (3, vI x3)] []) (h : fL_law_b1719 q18 xs Lg σ I J D R x1 x2 x3 = some ()) : WLaw G l xs Lg σ0 (σ, I, J, D, R) 1719 [(0, vR (some 3)), (1, vR x1), (2, vR x2), (3, vI x3)] [] := by
  unfold fL_law_b1719 at h
  refine r_aload_n (pc := 1719) dL_law_1719 rfl 1 rfl ?_
  refine r_aload_n (pc := 1720) dL_law_1720 rfl 0 rfl ?_
  refine r_iload_n (pc := 1721) dL_law_1721 rfl 3 rfl ?_
  refine r_iconst (pc := 1722) dL_law_1722 kc_iconst_1 ?_
  refine r_iadd (pc := 1723) dL_law_1723 ?_
  obtain ⟨g648, h⟩ := gd h
  refine r_scld (pc := 1724) dL_law_1724 g648 ?_
  refine r_aload_n (pc := 1725) dL_law_1725 rfl 0 rfl ?_
  refine r_iload_n (pc := 1726) dL_law_1726 rfl 3 rfl ?_
  refine r_iconst (pc := 1727) dL_law_1727 kc_iconst_2 ?_
  refine r_iadd (pc := 1728) dL_law_1728 ?_
  obtain ⟨g649, h⟩ := gd h
  refine r_scld (pc := 1729) dL_law_1729 g649 ?_
  refine r_aload_n (pc := 1730) dL_law_1730 rfl 0 rfl ?_
  refine r_iload_n (pc := 1731) dL_law_1731 rfl 3 rfl ?_
  refine r_iconst (pc := 1732) dL_law_1732 kc_iconst_3 ?_
  refine r_iadd (pc := 1733) dL_law_1733 ?_
  obtain ⟨g650, h⟩ := gd h
  refine r_scld (pc := 1734) dL_law_1734 g650 ?_
  refine r_aload_n (pc := 1735) dL_law_1735 rfl 0 rfl ?_
  refine r_iload_n (pc := 1736) dL_law_1736 rfl 3 rfl ?_
  refine r_iconst (pc := 1737) dL_law_1737 kc_iconst_4 ?_
  refine r_iadd (pc := 1738) dL_law_1738 ?_
  obtain ⟨g651, h⟩ := gd h
  refine r_scld (pc := 1739) dL_law_1739 g651 ?_
  refine r_aload_n (pc := 1740) dL_law_1740 rfl 0 rfl ?_
  refine r_iload_n (pc := 1741) dL_law_1741 rfl 3 rfl ?_
  refine r_iconst (pc := 1742) dL_law_1742 kc_iconst_5 ?_
  refine r_iadd (pc := 1743) dL_law_1743 ?_
  obtain ⟨g652, h⟩ := gd h
  refine r_scld (pc := 1744) dL_law_1744 g652 ?_
  obtain ⟨a653, ha653, h⟩ := ob h
  refine r_ref5 ha653 ?_
  obtain ⟨g654, h⟩ := gd h
  obtain ⟨⟨I655, r656⟩, hc657, h⟩ := ob h
  refine r_callV1 (pc := 1745) (av := [vI (xs (Int32.toNatClampNeg (x3 + (1 : Int32)))), vI (xs (Int32.toNatClampNeg (x3 + (2 : Int32)))), vI (xs (Int32.toNatClampNeg (x3 + (3 : Int32)))), vI (xs (Int32.toNatClampNeg (x3 + (4 : Int32)))), vI (xs (Int32.toNatClampNeg (x3 + (5 : Int32))))]) (S := []) dL_law_1745 (kX11_step hc657) g654 rfl mkL_150 mwX11_step rfl ⟨Nat.le_of_ble_eq_true rfl, Nat.le_of_ble_eq_true rfl⟩ (Nat.le_of_ble_eq_true rfl) ⟨Nat.le_refl _, Nat.le_refl _⟩ (fun b => b) ?_
  refine r_aload_n (pc := 1748) dL_law_1748 rfl 2 rfl ?_
  refine r_aload_n (pc := 1749) dL_law_1749 rfl 0 rfl ?_
  refine r_iload_n (pc := 1750) dL_law_1750 rfl 3 rfl ?_
  refine r_iconst (pc := 1751) dL_law_1751 kc_iconst_1 ?_
  refine r_iadd (pc := 1752) dL_law_1752 ?_
  refine r_scld (pc := 1753) dL_law_1753 g648 ?_
  refine r_aload_n (pc := 1754) dL_law_1754 rfl 0 rfl ?_
  refine r_iload_n (pc := 1755) dL_law_1755 rfl 3 rfl ?_
  refine r_iconst (pc := 1756) dL_law_1756 kc_iconst_2 ?_
  refine r_iadd (pc := 1757) dL_law_1757 ?_
  refine r_scld (pc := 1758) dL_law_1758 g649 ?_
  refine r_aload_n (pc := 1759) dL_law_1759 rfl 0 rfl ?_
  refine r_iload_n (pc := 1760) dL_law_1760 rfl 3 rfl ?_
  refine r_iconst (pc := 1761) dL_law_1761 kc_iconst_3 ?_
  refine r_iadd (pc := 1762) dL_law_1762 ?_
  refine r_scld (pc := 1763) dL_law_1763 g650 ?_
  refine r_aload_n (pc := 1764) dL_law_1764 rfl 0 rfl ?_
  refine r_iload_n (pc := 1765) dL_law_1765 rfl 3 rfl ?_
  refine r_iconst (pc := 1766) dL_law_1766 kc_iconst_4 ?_
  refine r_iadd (pc := 1767) dL_law_1767 ?_
  refine r_scld (pc := 1768) dL_law_1768 g651 ?_
  refine r_aload_n (pc := 1769) dL_law_1769 rfl 0 rfl ?_
  refine r_iload_n (pc := 1770) dL_law_1770 rfl 3 rfl ?_
  refine r_iconst (pc := 1771) dL_law_1771 kc_iconst_5 ?_
  refine r_iadd (pc := 1772) dL_law_1772 ?_
  refine r_scld (pc := 1773) dL_law_1773 g652 ?_
  obtain ⟨a658, ha658, h⟩ := ob h
  refine r_ref5 ha658 ?_
  obtain ⟨g659, h⟩ := gd h
  obtain ⟨⟨I660, r661⟩, hc662, h⟩ := ob h
  refine r_callV1 (pc := 1774) (av := [vI (xs (Int32.toNatClampNeg (x3 + (1 : Int32)))), vI (xs (Int32.toNatClampNeg (x3 + (2 : Int32)))), vI (xs (Int32.toNatClampNeg (x3 + (3 : Int32)))), vI (xs (Int32.toNatClampNeg (x3 + (4 : Int32)))), vI (xs (Int32.toNatClampNeg (x3 + (5 : Int32))))]) (S := [vI r656]) dL_law_1774 (kX12_step hc662) g659 rfl mkL_153 mwX12_step rfl ⟨Nat.le_of_ble_eq_true rfl, Nat.le_of_ble_eq_true rfl⟩ (Nat.le_of_ble_eq_true rfl) ⟨Nat.le_refl _, Nat.le_refl _⟩ (fun b => b) ?_
  refine r_icmp_eq (pc := 1777) (tgt := 3270) dL_law_1777 rfl (fun c => ?_) (fun c => ?_)
  · have h := it h c
    refine r_iinc (pc := 3270) (v := (x3 + (7 : Int32))) (L' := [(3, vI (x3 + (7 : Int32))), (0, vR (some 3)), (1, vR x1), (2, vR x2)]) dL_law_3270 3 rfl (kc_inc_7 _) (by decide) rfl ?_
    refine r_goto (pc := 3273) (tgt := 18) dL_law_3273 rfl ?_
    refine r_sub [1, 2, 3, 0] rfl ?_
    exact hq18 _ _ _ _ _ _ _ _ h
  · have h := ie h c
    refine r_iconst (pc := 1780) dL_law_1780 kc_iconst_0 ?_
    cases h
def fL_law_b1686 (q18 : (Shp) → (Nat → Nat → Int32) → (Nat → Nat → Int64) → (Nat → Nat → UInt64) → (Nat → Nat → Option Nat) → (Option Nat) → (Option Nat) → (Int32) → (Option (Unit))) (xs : Nat → Int32) (Lg : Nat) (σ : Shp) (I : Nat → Nat → Int32) (J : Nat → Nat → Int64) (D : Nat → Nat → UInt64) (R : Nat → Nat → Option Nat) (x1 : Option Nat) (x2 : Option Nat) (x3 : Int32) : Option Unit :=
  if ¬ ((x3 + (1 : Int32)) < 0 ∨ Lg ≤ Int32.toNatClampNeg (x3 + (1 : Int32))) then
  if ¬ ((x3 + (2 : Int32)) < 0 ∨ Lg ≤ Int32.toNatClampNeg (x3 + (2 : Int32))) then
  (x1 : Option Nat).bind fun a666 =>
  if kdx σ a666 = 12 then
  (fX11_led σ I R a666 (xs (Int32.toNatClampNeg (x3 + (1 : Int32)))) (xs (Int32.toNatClampNeg (x3 + (2 : Int32))))).bind fun (I668, r669) =>
  (x2 : Option Nat).bind fun a671 =>
  if kdx σ a671 = 13 then
  (fX12_led σ I668 R a671 (xs (Int32.toNatClampNeg (x3 + (1 : Int32)))) (xs (Int32.toNatClampNeg (x3 + (2 : Int32))))).bind fun (I673, r674) =>
  if r669 = r674 then
    let v676 := x3 + (7 : Int32)
    q18 σ I673 J D R x1 x2 v676
  else
    none
  else none
  else none
  else none
  else none
set_option maxHeartbeats 8000000 in
set_option maxRecDepth 100000 in
theorem wL_law_b1686 {G : Gx} {l : Launch} {xs : Nat → Int32} {Lg : Nat} {σ0 : Shp} {σ : Shp} {I : Nat → Nat → Int32} {J : Nat → Nat → Int64} {D : Nat → Nat → UInt64} {R : Nat → Nat → Option Nat} {q18 : (Shp) → (Nat → Nat → Int32) → (Nat → Nat → Int64) → (Nat → Nat → UInt64) → (Nat → Nat → Option Nat) → (Option Nat) → (Option Nat) → (Int32) → (Option (Unit))} {x1 : Option Nat} {x2 : Option Nat} {x3 : Int32} (hq18 : ∀ (σ : Shp) (I : Nat → Nat → Int32) (J : Nat → Nat → Int64) (D : Nat → Nat → UInt64) (R : Nat → Nat → Option Nat) (x1 : Option Nat) (x2 : Option Nat) (x3 : Int32), q18 σ I J D R x1 x2 x3 = some () → WLaw G l xs Lg σ0 (σ, I, J, D, R) 18 [(0, vR (some 3)), (1, vR x1), (2, vR x2), (3, vI x3)] []) (h : fL_law_b1686 q18 xs Lg σ I J D R x1 x2 x3 = some ()) : WLaw G l xs Lg σ0 (σ, I, J, D, R) 1686 [(0, vR (some 3)), (1, vR x1), (2, vR x2), (3, vI x3)] [] := by
  unfold fL_law_b1686 at h
  refine r_aload_n (pc := 1686) dL_law_1686 rfl 1 rfl ?_
  refine r_aload_n (pc := 1687) dL_law_1687 rfl 0 rfl ?_
  refine r_iload_n (pc := 1688) dL_law_1688 rfl 3 rfl ?_
  refine r_iconst (pc := 1689) dL_law_1689 kc_iconst_1 ?_
  refine r_iadd (pc := 1690) dL_law_1690 ?_
  obtain ⟨g664, h⟩ := gd h
  refine r_scld (pc := 1691) dL_law_1691 g664 ?_
  refine r_aload_n (pc := 1692) dL_law_1692 rfl 0 rfl ?_
  refine r_iload_n (pc := 1693) dL_law_1693 rfl 3 rfl ?_
  refine r_iconst (pc := 1694) dL_law_1694 kc_iconst_2 ?_
  refine r_iadd (pc := 1695) dL_law_1695 ?_
  obtain ⟨g665, h⟩ := gd h
  refine r_scld (pc := 1696) dL_law_1696 g665 ?_
  obtain ⟨a666, ha666, h⟩ := ob h
  refine r_ref2 ha666 ?_
  obtain ⟨g667, h⟩ := gd h
  obtain ⟨⟨I668, r669⟩, hc670, h⟩ := ob h
  refine r_callV1 (pc := 1697) (av := [vI (xs (Int32.toNatClampNeg (x3 + (1 : Int32)))), vI (xs (Int32.toNatClampNeg (x3 + (2 : Int32))))]) (S := []) dL_law_1697 (kX11_led hc670) g667 rfl mkL_146 mwX11_led rfl ⟨Nat.le_of_ble_eq_true rfl, Nat.le_of_ble_eq_true rfl⟩ (Nat.le_of_ble_eq_true rfl) ⟨Nat.le_refl _, Nat.le_refl _⟩ (fun b => b) ?_
  refine r_aload_n (pc := 1700) dL_law_1700 rfl 2 rfl ?_
  refine r_aload_n (pc := 1701) dL_law_1701 rfl 0 rfl ?_
  refine r_iload_n (pc := 1702) dL_law_1702 rfl 3 rfl ?_
  refine r_iconst (pc := 1703) dL_law_1703 kc_iconst_1 ?_
  refine r_iadd (pc := 1704) dL_law_1704 ?_
  refine r_scld (pc := 1705) dL_law_1705 g664 ?_
  refine r_aload_n (pc := 1706) dL_law_1706 rfl 0 rfl ?_
  refine r_iload_n (pc := 1707) dL_law_1707 rfl 3 rfl ?_
  refine r_iconst (pc := 1708) dL_law_1708 kc_iconst_2 ?_
  refine r_iadd (pc := 1709) dL_law_1709 ?_
  refine r_scld (pc := 1710) dL_law_1710 g665 ?_
  obtain ⟨a671, ha671, h⟩ := ob h
  refine r_ref2 ha671 ?_
  obtain ⟨g672, h⟩ := gd h
  obtain ⟨⟨I673, r674⟩, hc675, h⟩ := ob h
  refine r_callV1 (pc := 1711) (av := [vI (xs (Int32.toNatClampNeg (x3 + (1 : Int32)))), vI (xs (Int32.toNatClampNeg (x3 + (2 : Int32))))]) (S := [vI r669]) dL_law_1711 (kX12_led hc675) g672 rfl mkL_149 mwX12_led rfl ⟨Nat.le_of_ble_eq_true rfl, Nat.le_of_ble_eq_true rfl⟩ (Nat.le_of_ble_eq_true rfl) ⟨Nat.le_refl _, Nat.le_refl _⟩ (fun b => b) ?_
  refine r_icmp_eq (pc := 1714) (tgt := 3270) dL_law_1714 rfl (fun c => ?_) (fun c => ?_)
  · have h := it h c
    refine r_iinc (pc := 3270) (v := (x3 + (7 : Int32))) (L' := [(3, vI (x3 + (7 : Int32))), (0, vR (some 3)), (1, vR x1), (2, vR x2)]) dL_law_3270 3 rfl (kc_inc_7 _) (by decide) rfl ?_
    refine r_goto (pc := 3273) (tgt := 18) dL_law_3273 rfl ?_
    refine r_sub [1, 2, 3, 0] rfl ?_
    exact hq18 _ _ _ _ _ _ _ _ h
  · have h := ie h c
    refine r_iconst (pc := 1717) dL_law_1717 kc_iconst_0 ?_
    cases h
def fL_law_b1643 (q18 : (Shp) → (Nat → Nat → Int32) → (Nat → Nat → Int64) → (Nat → Nat → UInt64) → (Nat → Nat → Option Nat) → (Option Nat) → (Option Nat) → (Int32) → (Option (Unit))) (xs : Nat → Int32) (Lg : Nat) (σ : Shp) (I : Nat → Nat → Int32) (J : Nat → Nat → Int64) (D : Nat → Nat → UInt64) (R : Nat → Nat → Option Nat) (x1 : Option Nat) (x2 : Option Nat) (x3 : Int32) : Option Unit :=
  if ¬ ((x3 + (1 : Int32)) < 0 ∨ Lg ≤ Int32.toNatClampNeg (x3 + (1 : Int32))) then
  if ¬ ((x3 + (2 : Int32)) < 0 ∨ Lg ≤ Int32.toNatClampNeg (x3 + (2 : Int32))) then
  if ¬ ((x3 + (3 : Int32)) < 0 ∨ Lg ≤ Int32.toNatClampNeg (x3 + (3 : Int32))) then
  (x1 : Option Nat).bind fun a680 =>
  if kdx σ a680 = 12 then
  (fX11_follow σ I R a680 (xs (Int32.toNatClampNeg (x3 + (1 : Int32)))) (xs (Int32.toNatClampNeg (x3 + (2 : Int32)))) (xs (Int32.toNatClampNeg (x3 + (3 : Int32))))).bind fun (I682, R683, r684) =>
  (x2 : Option Nat).bind fun a686 =>
  if kdx σ a686 = 13 then
  (fX12_follow σ I682 R683 a686 (xs (Int32.toNatClampNeg (x3 + (1 : Int32)))) (xs (Int32.toNatClampNeg (x3 + (2 : Int32)))) (xs (Int32.toNatClampNeg (x3 + (3 : Int32))))).bind fun (I688, r689) =>
  if r684 = r689 then
    let v691 := x3 + (7 : Int32)
    q18 σ I688 J D R683 x1 x2 v691
  else
    none
  else none
  else none
  else none
  else none
  else none
set_option maxHeartbeats 8000000 in
set_option maxRecDepth 100000 in
theorem wL_law_b1643 {G : Gx} {l : Launch} {xs : Nat → Int32} {Lg : Nat} {σ0 : Shp} {σ : Shp} {I : Nat → Nat → Int32} {J : Nat → Nat → Int64} {D : Nat → Nat → UInt64} {R : Nat → Nat → Option Nat} {q18 : (Shp) → (Nat → Nat → Int32) → (Nat → Nat → Int64) → (Nat → Nat → UInt64) → (Nat → Nat → Option Nat) → (Option Nat) → (Option Nat) → (Int32) → (Option (Unit))} {x1 : Option Nat} {x2 : Option Nat} {x3 : Int32} (hq18 : ∀ (σ : Shp) (I : Nat → Nat → Int32) (J : Nat → Nat → Int64) (D : Nat → Nat → UInt64) (R : Nat → Nat → Option Nat) (x1 : Option Nat) (x2 : Option Nat) (x3 : Int32), q18 σ I J D R x1 x2 x3 = some () → WLaw G l xs Lg σ0 (σ, I, J, D, R) 18 [(0, vR (some 3)), (1, vR x1), (2, vR x2), (3, vI x3)] []) (h : fL_law_b1643 q18 xs Lg σ I J D R x1 x2 x3 = some ()) : WLaw G l xs Lg σ0 (σ, I, J, D, R) 1643 [(0, vR (some 3)), (1, vR x1), (2, vR x2), (3, vI x3)] [] := by
  unfold fL_law_b1643 at h
  refine r_aload_n (pc := 1643) dL_law_1643 rfl 1 rfl ?_
  refine r_aload_n (pc := 1644) dL_law_1644 rfl 0 rfl ?_
  refine r_iload_n (pc := 1645) dL_law_1645 rfl 3 rfl ?_
  refine r_iconst (pc := 1646) dL_law_1646 kc_iconst_1 ?_
  refine r_iadd (pc := 1647) dL_law_1647 ?_
  obtain ⟨g677, h⟩ := gd h
  refine r_scld (pc := 1648) dL_law_1648 g677 ?_
  refine r_aload_n (pc := 1649) dL_law_1649 rfl 0 rfl ?_
  refine r_iload_n (pc := 1650) dL_law_1650 rfl 3 rfl ?_
  refine r_iconst (pc := 1651) dL_law_1651 kc_iconst_2 ?_
  refine r_iadd (pc := 1652) dL_law_1652 ?_
  obtain ⟨g678, h⟩ := gd h
  refine r_scld (pc := 1653) dL_law_1653 g678 ?_
  refine r_aload_n (pc := 1654) dL_law_1654 rfl 0 rfl ?_
  refine r_iload_n (pc := 1655) dL_law_1655 rfl 3 rfl ?_
  refine r_iconst (pc := 1656) dL_law_1656 kc_iconst_3 ?_
  refine r_iadd (pc := 1657) dL_law_1657 ?_
  obtain ⟨g679, h⟩ := gd h
  refine r_scld (pc := 1658) dL_law_1658 g679 ?_
  obtain ⟨a680, ha680, h⟩ := ob h
  refine r_ref3 ha680 ?_
  obtain ⟨g681, h⟩ := gd h
  obtain ⟨⟨I682, R683, r684⟩, hc685, h⟩ := ob h
  refine r_callV1 (pc := 1659) (av := [vI (xs (Int32.toNatClampNeg (x3 + (1 : Int32)))), vI (xs (Int32.toNatClampNeg (x3 + (2 : Int32)))), vI (xs (Int32.toNatClampNeg (x3 + (3 : Int32))))]) (S := []) dL_law_1659 (kX11_follow hc685) g681 rfl mkL_142 mwX11_follow rfl ⟨Nat.le_of_ble_eq_true rfl, Nat.le_of_ble_eq_true rfl⟩ (Nat.le_of_ble_eq_true rfl) ⟨Nat.le_refl _, Nat.le_refl _⟩ (fun b => b) ?_
  refine r_aload_n (pc := 1662) dL_law_1662 rfl 2 rfl ?_
  refine r_aload_n (pc := 1663) dL_law_1663 rfl 0 rfl ?_
  refine r_iload_n (pc := 1664) dL_law_1664 rfl 3 rfl ?_
  refine r_iconst (pc := 1665) dL_law_1665 kc_iconst_1 ?_
  refine r_iadd (pc := 1666) dL_law_1666 ?_
  refine r_scld (pc := 1667) dL_law_1667 g677 ?_
  refine r_aload_n (pc := 1668) dL_law_1668 rfl 0 rfl ?_
  refine r_iload_n (pc := 1669) dL_law_1669 rfl 3 rfl ?_
  refine r_iconst (pc := 1670) dL_law_1670 kc_iconst_2 ?_
  refine r_iadd (pc := 1671) dL_law_1671 ?_
  refine r_scld (pc := 1672) dL_law_1672 g678 ?_
  refine r_aload_n (pc := 1673) dL_law_1673 rfl 0 rfl ?_
  refine r_iload_n (pc := 1674) dL_law_1674 rfl 3 rfl ?_
  refine r_iconst (pc := 1675) dL_law_1675 kc_iconst_3 ?_
  refine r_iadd (pc := 1676) dL_law_1676 ?_
  refine r_scld (pc := 1677) dL_law_1677 g679 ?_
  obtain ⟨a686, ha686, h⟩ := ob h
  refine r_ref3 ha686 ?_
  obtain ⟨g687, h⟩ := gd h
  obtain ⟨⟨I688, r689⟩, hc690, h⟩ := ob h
  refine r_callV1 (pc := 1678) (av := [vI (xs (Int32.toNatClampNeg (x3 + (1 : Int32)))), vI (xs (Int32.toNatClampNeg (x3 + (2 : Int32)))), vI (xs (Int32.toNatClampNeg (x3 + (3 : Int32))))]) (S := [vI r684]) dL_law_1678 (kX12_follow hc690) g687 rfl mkL_145 mwX12_follow rfl ⟨Nat.le_of_ble_eq_true rfl, Nat.le_of_ble_eq_true rfl⟩ (Nat.le_of_ble_eq_true rfl) ⟨Nat.le_refl _, Nat.le_refl _⟩ (fun b => b) ?_
  refine r_icmp_eq (pc := 1681) (tgt := 3270) dL_law_1681 rfl (fun c => ?_) (fun c => ?_)
  · have h := it h c
    refine r_iinc (pc := 3270) (v := (x3 + (7 : Int32))) (L' := [(3, vI (x3 + (7 : Int32))), (0, vR (some 3)), (1, vR x1), (2, vR x2)]) dL_law_3270 3 rfl (kc_inc_7 _) (by decide) rfl ?_
    refine r_goto (pc := 3273) (tgt := 18) dL_law_3273 rfl ?_
    refine r_sub [1, 2, 3, 0] rfl ?_
    exact hq18 _ _ _ _ _ _ _ _ h
  · have h := ie h c
    refine r_iconst (pc := 1684) dL_law_1684 kc_iconst_0 ?_
    cases h
def fL_law_b1600 (q18 : (Shp) → (Nat → Nat → Int32) → (Nat → Nat → Int64) → (Nat → Nat → UInt64) → (Nat → Nat → Option Nat) → (Option Nat) → (Option Nat) → (Int32) → (Option (Unit))) (xs : Nat → Int32) (Lg : Nat) (σ : Shp) (I : Nat → Nat → Int32) (J : Nat → Nat → Int64) (D : Nat → Nat → UInt64) (R : Nat → Nat → Option Nat) (x1 : Option Nat) (x2 : Option Nat) (x3 : Int32) : Option Unit :=
  if ¬ ((x3 + (1 : Int32)) < 0 ∨ Lg ≤ Int32.toNatClampNeg (x3 + (1 : Int32))) then
  if ¬ ((x3 + (2 : Int32)) < 0 ∨ Lg ≤ Int32.toNatClampNeg (x3 + (2 : Int32))) then
  if ¬ ((x3 + (3 : Int32)) < 0 ∨ Lg ≤ Int32.toNatClampNeg (x3 + (3 : Int32))) then
  (x1 : Option Nat).bind fun a695 =>
  if kdx σ a695 = 12 then
  (fX11_lead σ I R a695 (xs (Int32.toNatClampNeg (x3 + (1 : Int32)))) (xs (Int32.toNatClampNeg (x3 + (2 : Int32)))) (xs (Int32.toNatClampNeg (x3 + (3 : Int32))))).bind fun (I697, R698, r699) =>
  (x2 : Option Nat).bind fun a701 =>
  if kdx σ a701 = 13 then
  (fX12_lead σ I697 R698 a701 (xs (Int32.toNatClampNeg (x3 + (1 : Int32)))) (xs (Int32.toNatClampNeg (x3 + (2 : Int32)))) (xs (Int32.toNatClampNeg (x3 + (3 : Int32))))).bind fun (I703, r704) =>
  if r699 = r704 then
    let v706 := x3 + (7 : Int32)
    q18 σ I703 J D R698 x1 x2 v706
  else
    none
  else none
  else none
  else none
  else none
  else none
set_option maxHeartbeats 8000000 in
set_option maxRecDepth 100000 in
theorem wL_law_b1600 {G : Gx} {l : Launch} {xs : Nat → Int32} {Lg : Nat} {σ0 : Shp} {σ : Shp} {I : Nat → Nat → Int32} {J : Nat → Nat → Int64} {D : Nat → Nat → UInt64} {R : Nat → Nat → Option Nat} {q18 : (Shp) → (Nat → Nat → Int32) → (Nat → Nat → Int64) → (Nat → Nat → UInt64) → (Nat → Nat → Option Nat) → (Option Nat) → (Option Nat) → (Int32) → (Option (Unit))} {x1 : Option Nat} {x2 : Option Nat} {x3 : Int32} (hq18 : ∀ (σ : Shp) (I : Nat → Nat → Int32) (J : Nat → Nat → Int64) (D : Nat → Nat → UInt64) (R : Nat → Nat → Option Nat) (x1 : Option Nat) (x2 : Option Nat) (x3 : Int32), q18 σ I J D R x1 x2 x3 = some () → WLaw G l xs Lg σ0 (σ, I, J, D, R) 18 [(0, vR (some 3)), (1, vR x1), (2, vR x2), (3, vI x3)] []) (h : fL_law_b1600 q18 xs Lg σ I J D R x1 x2 x3 = some ()) : WLaw G l xs Lg σ0 (σ, I, J, D, R) 1600 [(0, vR (some 3)), (1, vR x1), (2, vR x2), (3, vI x3)] [] := by
  unfold fL_law_b1600 at h
  refine r_aload_n (pc := 1600) dL_law_1600 rfl 1 rfl ?_
  refine r_aload_n (pc := 1601) dL_law_1601 rfl 0 rfl ?_
  refine r_iload_n (pc := 1602) dL_law_1602 rfl 3 rfl ?_
  refine r_iconst (pc := 1603) dL_law_1603 kc_iconst_1 ?_
  refine r_iadd (pc := 1604) dL_law_1604 ?_
  obtain ⟨g692, h⟩ := gd h
  refine r_scld (pc := 1605) dL_law_1605 g692 ?_
  refine r_aload_n (pc := 1606) dL_law_1606 rfl 0 rfl ?_
  refine r_iload_n (pc := 1607) dL_law_1607 rfl 3 rfl ?_
  refine r_iconst (pc := 1608) dL_law_1608 kc_iconst_2 ?_
  refine r_iadd (pc := 1609) dL_law_1609 ?_
  obtain ⟨g693, h⟩ := gd h
  refine r_scld (pc := 1610) dL_law_1610 g693 ?_
  refine r_aload_n (pc := 1611) dL_law_1611 rfl 0 rfl ?_
  refine r_iload_n (pc := 1612) dL_law_1612 rfl 3 rfl ?_
  refine r_iconst (pc := 1613) dL_law_1613 kc_iconst_3 ?_
  refine r_iadd (pc := 1614) dL_law_1614 ?_
  obtain ⟨g694, h⟩ := gd h
  refine r_scld (pc := 1615) dL_law_1615 g694 ?_
  obtain ⟨a695, ha695, h⟩ := ob h
  refine r_ref3 ha695 ?_
  obtain ⟨g696, h⟩ := gd h
  obtain ⟨⟨I697, R698, r699⟩, hc700, h⟩ := ob h
  refine r_callV1 (pc := 1616) (av := [vI (xs (Int32.toNatClampNeg (x3 + (1 : Int32)))), vI (xs (Int32.toNatClampNeg (x3 + (2 : Int32)))), vI (xs (Int32.toNatClampNeg (x3 + (3 : Int32))))]) (S := []) dL_law_1616 (kX11_lead hc700) g696 rfl mkL_138 mwX11_lead rfl ⟨Nat.le_of_ble_eq_true rfl, Nat.le_of_ble_eq_true rfl⟩ (Nat.le_of_ble_eq_true rfl) ⟨Nat.le_refl _, Nat.le_refl _⟩ (fun b => b) ?_
  refine r_aload_n (pc := 1619) dL_law_1619 rfl 2 rfl ?_
  refine r_aload_n (pc := 1620) dL_law_1620 rfl 0 rfl ?_
  refine r_iload_n (pc := 1621) dL_law_1621 rfl 3 rfl ?_
  refine r_iconst (pc := 1622) dL_law_1622 kc_iconst_1 ?_
  refine r_iadd (pc := 1623) dL_law_1623 ?_
  refine r_scld (pc := 1624) dL_law_1624 g692 ?_
  refine r_aload_n (pc := 1625) dL_law_1625 rfl 0 rfl ?_
  refine r_iload_n (pc := 1626) dL_law_1626 rfl 3 rfl ?_
  refine r_iconst (pc := 1627) dL_law_1627 kc_iconst_2 ?_
  refine r_iadd (pc := 1628) dL_law_1628 ?_
  refine r_scld (pc := 1629) dL_law_1629 g693 ?_
  refine r_aload_n (pc := 1630) dL_law_1630 rfl 0 rfl ?_
  refine r_iload_n (pc := 1631) dL_law_1631 rfl 3 rfl ?_
  refine r_iconst (pc := 1632) dL_law_1632 kc_iconst_3 ?_
  refine r_iadd (pc := 1633) dL_law_1633 ?_
  refine r_scld (pc := 1634) dL_law_1634 g694 ?_
  obtain ⟨a701, ha701, h⟩ := ob h
  refine r_ref3 ha701 ?_
  obtain ⟨g702, h⟩ := gd h
  obtain ⟨⟨I703, r704⟩, hc705, h⟩ := ob h
  refine r_callV1 (pc := 1635) (av := [vI (xs (Int32.toNatClampNeg (x3 + (1 : Int32)))), vI (xs (Int32.toNatClampNeg (x3 + (2 : Int32)))), vI (xs (Int32.toNatClampNeg (x3 + (3 : Int32))))]) (S := [vI r699]) dL_law_1635 (kX12_lead hc705) g702 rfl mkL_141 mwX12_lead rfl ⟨Nat.le_of_ble_eq_true rfl, Nat.le_of_ble_eq_true rfl⟩ (Nat.le_of_ble_eq_true rfl) ⟨Nat.le_refl _, Nat.le_refl _⟩ (fun b => b) ?_
  refine r_icmp_eq (pc := 1638) (tgt := 3270) dL_law_1638 rfl (fun c => ?_) (fun c => ?_)
  · have h := it h c
    refine r_iinc (pc := 3270) (v := (x3 + (7 : Int32))) (L' := [(3, vI (x3 + (7 : Int32))), (0, vR (some 3)), (1, vR x1), (2, vR x2)]) dL_law_3270 3 rfl (kc_inc_7 _) (by decide) rfl ?_
    refine r_goto (pc := 3273) (tgt := 18) dL_law_3273 rfl ?_
    refine r_sub [1, 2, 3, 0] rfl ?_
    exact hq18 _ _ _ _ _ _ _ _ h
  · have h := ie h c
    refine r_iconst (pc := 1641) dL_law_1641 kc_iconst_0 ?_
    cases h
def fL_law_b1527 (q18 : (Shp) → (Nat → Nat → Int32) → (Nat → Nat → Int64) → (Nat → Nat → UInt64) → (Nat → Nat → Option Nat) → (Option Nat) → (Option Nat) → (Int32) → (Option (Unit))) (xs : Nat → Int32) (Lg : Nat) (σ : Shp) (I : Nat → Nat → Int32) (J : Nat → Nat → Int64) (D : Nat → Nat → UInt64) (R : Nat → Nat → Option Nat) (x1 : Option Nat) (x2 : Option Nat) (x3 : Int32) : Option Unit :=
  if ¬ ((x3 + (1 : Int32)) < 0 ∨ Lg ≤ Int32.toNatClampNeg (x3 + (1 : Int32))) then
  if ¬ ((x3 + (2 : Int32)) < 0 ∨ Lg ≤ Int32.toNatClampNeg (x3 + (2 : Int32))) then
  if ¬ ((x3 + (3 : Int32)) < 0 ∨ Lg ≤ Int32.toNatClampNeg (x3 + (3 : Int32))) then
  if ¬ ((x3 + (4 : Int32)) < 0 ∨ Lg ≤ Int32.toNatClampNeg (x3 + (4 : Int32))) then
  (x1 : Option Nat).bind fun a711 =>
  if kdx σ a711 = 12 then
  (fX11_setField σ I J R a711 (xs (Int32.toNatClampNeg (x3 + (1 : Int32)))) (xs (Int32.toNatClampNeg (x3 + (2 : Int32)))) (((Int32.toInt64 (xs (Int32.toNatClampNeg (x3 + (3 : Int32))))) <<< (Int32.toInt64 (32 : Int32) &&& 63)) ||| ((Int32.toInt64 (xs (Int32.toNatClampNeg (x3 + (4 : Int32))))) &&& (4294967295 : Int64)))).bind fun (I713, J714, r715) =>
  (x2 : Option Nat).bind fun a717 =>
  if kdx σ a717 = 13 then
  (fX12_setField σ I713 J714 R a717 (xs (Int32.toNatClampNeg (x3 + (1 : Int32)))) (xs (Int32.toNatClampNeg (x3 + (2 : Int32)))) (((Int32.toInt64 (xs (Int32.toNatClampNeg (x3 + (3 : Int32))))) <<< (Int32.toInt64 (32 : Int32) &&& 63)) ||| ((Int32.toInt64 (xs (Int32.toNatClampNeg (x3 + (4 : Int32))))) &&& (4294967295 : Int64)))).bind fun (I719, J720, r721) =>
  if r715 = r721 then
    let v723 := x3 + (7 : Int32)
    q18 σ I719 J720 D R x1 x2 v723
  else
    none
  else none
  else none
  else none
  else none
  else none
  else none
set_option maxHeartbeats 8000000 in
set_option maxRecDepth 100000 in
theorem wL_law_b1527 {G : Gx} {l : Launch} {xs : Nat → Int32} {Lg : Nat} {σ0 : Shp} {σ : Shp} {I : Nat → Nat → Int32} {J : Nat → Nat → Int64} {D : Nat → Nat → UInt64} {R : Nat → Nat → Option Nat} {q18 : (Shp) → (Nat → Nat → Int32) → (Nat → Nat → Int64) → (Nat → Nat → UInt64) → (Nat → Nat → Option Nat) → (Option Nat) → (Option Nat) → (Int32) → (Option (Unit))} {x1 : Option Nat} {x2 : Option Nat} {x3 : Int32} (hq18 : ∀ (σ : Shp) (I : Nat → Nat → Int32) (J : Nat → Nat → Int64) (D : Nat → Nat → UInt64) (R : Nat → Nat → Option Nat) (x1 : Option Nat) (x2 : Option Nat) (x3 : Int32), q18 σ I J D R x1 x2 x3 = some () → WLaw G l xs Lg σ0 (σ, I, J, D, R) 18 [(0, vR (some 3)), (1, vR x1), (2, vR x2), (3, vI x3)] []) (h : fL_law_b1527 q18 xs Lg σ I J D R x1 x2 x3 = some ()) : WLaw G l xs Lg σ0 (σ, I, J, D, R) 1527 [(0, vR (some 3)), (1, vR x1), (2, vR x2), (3, vI x3)] [] := by
  unfold fL_law_b1527 at h
  refine r_aload_n (pc := 1527) dL_law_1527 rfl 1 rfl ?_
  refine r_aload_n (pc := 1528) dL_law_1528 rfl 0 rfl ?_
  refine r_iload_n (pc := 1529) dL_law_1529 rfl 3 rfl ?_
  refine r_iconst (pc := 1530) dL_law_1530 kc_iconst_1 ?_
  refine r_iadd (pc := 1531) dL_law_1531 ?_
  obtain ⟨g707, h⟩ := gd h
  refine r_scld (pc := 1532) dL_law_1532 g707 ?_
  refine r_aload_n (pc := 1533) dL_law_1533 rfl 0 rfl ?_
  refine r_iload_n (pc := 1534) dL_law_1534 rfl 3 rfl ?_
  refine r_iconst (pc := 1535) dL_law_1535 kc_iconst_2 ?_
  refine r_iadd (pc := 1536) dL_law_1536 ?_
  obtain ⟨g708, h⟩ := gd h
  refine r_scld (pc := 1537) dL_law_1537 g708 ?_
  refine r_aload_n (pc := 1538) dL_law_1538 rfl 0 rfl ?_
  refine r_iload_n (pc := 1539) dL_law_1539 rfl 3 rfl ?_
  refine r_iconst (pc := 1540) dL_law_1540 kc_iconst_3 ?_
  refine r_iadd (pc := 1541) dL_law_1541 ?_
  obtain ⟨g709, h⟩ := gd h
  refine r_scld (pc := 1542) dL_law_1542 g709 ?_
  refine r_i2l (pc := 1543) dL_law_1543 ?_
  refine r_bipush (pc := 1544) dL_law_1544 kc_bipush_32 ?_
  refine r_lshl (pc := 1546) dL_law_1546 ?_
  refine r_aload_n (pc := 1547) dL_law_1547 rfl 0 rfl ?_
  refine r_iload_n (pc := 1548) dL_law_1548 rfl 3 rfl ?_
  refine r_iconst (pc := 1549) dL_law_1549 kc_iconst_4 ?_
  refine r_iadd (pc := 1550) dL_law_1550 ?_
  obtain ⟨g710, h⟩ := gd h
  refine r_scld (pc := 1551) dL_law_1551 g710 ?_
  refine r_i2l (pc := 1552) dL_law_1552 ?_
  refine r_ldc2 (pc := 1553) dL_law_1553 clL_46 ?_
  refine r_land (pc := 1556) dL_law_1556 ?_
  refine r_lor (pc := 1557) dL_law_1557 ?_
  obtain ⟨a711, ha711, h⟩ := ob h
  refine r_ref3 ha711 ?_
  obtain ⟨g712, h⟩ := gd h
  obtain ⟨⟨I713, J714, r715⟩, hc716, h⟩ := ob h
  refine r_callV1 (pc := 1558) (av := [vI (xs (Int32.toNatClampNeg (x3 + (1 : Int32)))), vI (xs (Int32.toNatClampNeg (x3 + (2 : Int32)))), vL (((Int32.toInt64 (xs (Int32.toNatClampNeg (x3 + (3 : Int32))))) <<< (Int32.toInt64 (32 : Int32) &&& 63)) ||| ((Int32.toInt64 (xs (Int32.toNatClampNeg (x3 + (4 : Int32))))) &&& (4294967295 : Int64)))]) (S := []) dL_law_1558 (kX11_setField hc716) g712 rfl mkL_133 mwX11_setField rfl ⟨Nat.le_of_ble_eq_true rfl, Nat.le_of_ble_eq_true rfl⟩ (Nat.le_of_ble_eq_true rfl) ⟨Nat.le_refl _, Nat.le_refl _⟩ (fun b => b) ?_
  refine r_aload_n (pc := 1561) dL_law_1561 rfl 2 rfl ?_
  refine r_aload_n (pc := 1562) dL_law_1562 rfl 0 rfl ?_
  refine r_iload_n (pc := 1563) dL_law_1563 rfl 3 rfl ?_
  refine r_iconst (pc := 1564) dL_law_1564 kc_iconst_1 ?_
  refine r_iadd (pc := 1565) dL_law_1565 ?_
  refine r_scld (pc := 1566) dL_law_1566 g707 ?_
  refine r_aload_n (pc := 1567) dL_law_1567 rfl 0 rfl ?_
  refine r_iload_n (pc := 1568) dL_law_1568 rfl 3 rfl ?_
  refine r_iconst (pc := 1569) dL_law_1569 kc_iconst_2 ?_
  refine r_iadd (pc := 1570) dL_law_1570 ?_
  refine r_scld (pc := 1571) dL_law_1571 g708 ?_
  refine r_aload_n (pc := 1572) dL_law_1572 rfl 0 rfl ?_
  refine r_iload_n (pc := 1573) dL_law_1573 rfl 3 rfl ?_
  refine r_iconst (pc := 1574) dL_law_1574 kc_iconst_3 ?_
  refine r_iadd (pc := 1575) dL_law_1575 ?_
  refine r_scld (pc := 1576) dL_law_1576 g709 ?_
  refine r_i2l (pc := 1577) dL_law_1577 ?_
  refine r_bipush (pc := 1578) dL_law_1578 kc_bipush_32 ?_
  refine r_lshl (pc := 1580) dL_law_1580 ?_
  refine r_aload_n (pc := 1581) dL_law_1581 rfl 0 rfl ?_
  refine r_iload_n (pc := 1582) dL_law_1582 rfl 3 rfl ?_
  refine r_iconst (pc := 1583) dL_law_1583 kc_iconst_4 ?_
  refine r_iadd (pc := 1584) dL_law_1584 ?_
  refine r_scld (pc := 1585) dL_law_1585 g710 ?_
  refine r_i2l (pc := 1586) dL_law_1586 ?_
  refine r_ldc2 (pc := 1587) dL_law_1587 clL_46 ?_
  refine r_land (pc := 1590) dL_law_1590 ?_
  refine r_lor (pc := 1591) dL_law_1591 ?_
  obtain ⟨a717, ha717, h⟩ := ob h
  refine r_ref3 ha717 ?_
  obtain ⟨g718, h⟩ := gd h
  obtain ⟨⟨I719, J720, r721⟩, hc722, h⟩ := ob h
  refine r_callV1 (pc := 1592) (av := [vI (xs (Int32.toNatClampNeg (x3 + (1 : Int32)))), vI (xs (Int32.toNatClampNeg (x3 + (2 : Int32)))), vL (((Int32.toInt64 (xs (Int32.toNatClampNeg (x3 + (3 : Int32))))) <<< (Int32.toInt64 (32 : Int32) &&& 63)) ||| ((Int32.toInt64 (xs (Int32.toNatClampNeg (x3 + (4 : Int32))))) &&& (4294967295 : Int64)))]) (S := [vI r715]) dL_law_1592 (kX12_setField hc722) g718 rfl mkL_137 mwX12_setField rfl ⟨Nat.le_of_ble_eq_true rfl, Nat.le_of_ble_eq_true rfl⟩ (Nat.le_of_ble_eq_true rfl) ⟨Nat.le_refl _, Nat.le_refl _⟩ (fun b => b) ?_
  refine r_icmp_eq (pc := 1595) (tgt := 3270) dL_law_1595 rfl (fun c => ?_) (fun c => ?_)
  · have h := it h c
    refine r_iinc (pc := 3270) (v := (x3 + (7 : Int32))) (L' := [(3, vI (x3 + (7 : Int32))), (0, vR (some 3)), (1, vR x1), (2, vR x2)]) dL_law_3270 3 rfl (kc_inc_7 _) (by decide) rfl ?_
    refine r_goto (pc := 3273) (tgt := 18) dL_law_3273 rfl ?_
    refine r_sub [1, 2, 3, 0] rfl ?_
    exact hq18 _ _ _ _ _ _ _ _ h
  · have h := ie h c
    refine r_iconst (pc := 1598) dL_law_1598 kc_iconst_0 ?_
    cases h
def fL_law_b1493 (q18 : (Shp) → (Nat → Nat → Int32) → (Nat → Nat → Int64) → (Nat → Nat → UInt64) → (Nat → Nat → Option Nat) → (Option Nat) → (Option Nat) → (Int32) → (Option (Unit))) (xs : Nat → Int32) (Lg : Nat) (σ : Shp) (I : Nat → Nat → Int32) (J : Nat → Nat → Int64) (D : Nat → Nat → UInt64) (R : Nat → Nat → Option Nat) (x1 : Option Nat) (x2 : Option Nat) (x3 : Int32) : Option Unit :=
  if ¬ ((x3 + (1 : Int32)) < 0 ∨ Lg ≤ Int32.toNatClampNeg (x3 + (1 : Int32))) then
  if ¬ ((x3 + (2 : Int32)) < 0 ∨ Lg ≤ Int32.toNatClampNeg (x3 + (2 : Int32))) then
  (x1 : Option Nat).bind fun a726 =>
  if kdx σ a726 = 12 then
  (fX11_field σ I J R a726 (xs (Int32.toNatClampNeg (x3 + (1 : Int32)))) (xs (Int32.toNatClampNeg (x3 + (2 : Int32))))).bind fun (I728, r729) =>
  (x2 : Option Nat).bind fun a731 =>
  if kdx σ a731 = 13 then
  (fX12_field σ I728 J R a731 (xs (Int32.toNatClampNeg (x3 + (1 : Int32)))) (xs (Int32.toNatClampNeg (x3 + (2 : Int32))))).bind fun (I733, r734) =>
  if r729 = r734 then
    let v736 := x3 + (7 : Int32)
    q18 σ I733 J D R x1 x2 v736
  else
    none
  else none
  else none
  else none
  else none
set_option maxHeartbeats 8000000 in
set_option maxRecDepth 100000 in
theorem wL_law_b1493 {G : Gx} {l : Launch} {xs : Nat → Int32} {Lg : Nat} {σ0 : Shp} {σ : Shp} {I : Nat → Nat → Int32} {J : Nat → Nat → Int64} {D : Nat → Nat → UInt64} {R : Nat → Nat → Option Nat} {q18 : (Shp) → (Nat → Nat → Int32) → (Nat → Nat → Int64) → (Nat → Nat → UInt64) → (Nat → Nat → Option Nat) → (Option Nat) → (Option Nat) → (Int32) → (Option (Unit))} {x1 : Option Nat} {x2 : Option Nat} {x3 : Int32} (hq18 : ∀ (σ : Shp) (I : Nat → Nat → Int32) (J : Nat → Nat → Int64) (D : Nat → Nat → UInt64) (R : Nat → Nat → Option Nat) (x1 : Option Nat) (x2 : Option Nat) (x3 : Int32), q18 σ I J D R x1 x2 x3 = some () → WLaw G l xs Lg σ0 (σ, I, J, D, R) 18 [(0, vR (some 3)), (1, vR x1), (2, vR x2), (3, vI x3)] []) (h : fL_law_b1493 q18 xs Lg σ I J D R x1 x2 x3 = some ()) : WLaw G l xs Lg σ0 (σ, I, J, D, R) 1493 [(0, vR (some 3)), (1, vR x1), (2, vR x2), (3, vI x3)] [] := by
  unfold fL_law_b1493 at h
  refine r_aload_n (pc := 1493) dL_law_1493 rfl 1 rfl ?_
  refine r_aload_n (pc := 1494) dL_law_1494 rfl 0 rfl ?_
  refine r_iload_n (pc := 1495) dL_law_1495 rfl 3 rfl ?_
  refine r_iconst (pc := 1496) dL_law_1496 kc_iconst_1 ?_
  refine r_iadd (pc := 1497) dL_law_1497 ?_
  obtain ⟨g724, h⟩ := gd h
  refine r_scld (pc := 1498) dL_law_1498 g724 ?_
  refine r_aload_n (pc := 1499) dL_law_1499 rfl 0 rfl ?_
  refine r_iload_n (pc := 1500) dL_law_1500 rfl 3 rfl ?_
  refine r_iconst (pc := 1501) dL_law_1501 kc_iconst_2 ?_
  refine r_iadd (pc := 1502) dL_law_1502 ?_
  obtain ⟨g725, h⟩ := gd h
  refine r_scld (pc := 1503) dL_law_1503 g725 ?_
  obtain ⟨a726, ha726, h⟩ := ob h
  refine r_ref2 ha726 ?_
  obtain ⟨g727, h⟩ := gd h
  obtain ⟨⟨I728, r729⟩, hc730, h⟩ := ob h
  refine r_callV1 (pc := 1504) (av := [vI (xs (Int32.toNatClampNeg (x3 + (1 : Int32)))), vI (xs (Int32.toNatClampNeg (x3 + (2 : Int32))))]) (S := []) dL_law_1504 (kX11_field hc730) g727 rfl mkL_128 mwX11_field rfl ⟨Nat.le_of_ble_eq_true rfl, Nat.le_of_ble_eq_true rfl⟩ (Nat.le_of_ble_eq_true rfl) ⟨Nat.le_refl _, Nat.le_refl _⟩ (fun b => b) ?_
  refine r_aload_n (pc := 1507) dL_law_1507 rfl 2 rfl ?_
  refine r_aload_n (pc := 1508) dL_law_1508 rfl 0 rfl ?_
  refine r_iload_n (pc := 1509) dL_law_1509 rfl 3 rfl ?_
  refine r_iconst (pc := 1510) dL_law_1510 kc_iconst_1 ?_
  refine r_iadd (pc := 1511) dL_law_1511 ?_
  refine r_scld (pc := 1512) dL_law_1512 g724 ?_
  refine r_aload_n (pc := 1513) dL_law_1513 rfl 0 rfl ?_
  refine r_iload_n (pc := 1514) dL_law_1514 rfl 3 rfl ?_
  refine r_iconst (pc := 1515) dL_law_1515 kc_iconst_2 ?_
  refine r_iadd (pc := 1516) dL_law_1516 ?_
  refine r_scld (pc := 1517) dL_law_1517 g725 ?_
  obtain ⟨a731, ha731, h⟩ := ob h
  refine r_ref2 ha731 ?_
  obtain ⟨g732, h⟩ := gd h
  obtain ⟨⟨I733, r734⟩, hc735, h⟩ := ob h
  refine r_callV1 (pc := 1518) (av := [vI (xs (Int32.toNatClampNeg (x3 + (1 : Int32)))), vI (xs (Int32.toNatClampNeg (x3 + (2 : Int32))))]) (S := [vL r729]) dL_law_1518 (kX12_field hc735) g732 rfl mkL_132 mwX12_field rfl ⟨Nat.le_of_ble_eq_true rfl, Nat.le_of_ble_eq_true rfl⟩ (Nat.le_of_ble_eq_true rfl) ⟨Nat.le_refl _, Nat.le_refl _⟩ (fun b => b) ?_
  refine r_lcmp (pc := 1521) dL_law_1521 ?_
  refine r_if_eq (pc := 1522) (tgt := 3270) dL_law_1522 rfl (fun c => ?_) (fun c => ?_)
  · have h := it h (lgc_eq.mp c)
    refine r_iinc (pc := 3270) (v := (x3 + (7 : Int32))) (L' := [(3, vI (x3 + (7 : Int32))), (0, vR (some 3)), (1, vR x1), (2, vR x2)]) dL_law_3270 3 rfl (kc_inc_7 _) (by decide) rfl ?_
    refine r_goto (pc := 3273) (tgt := 18) dL_law_3273 rfl ?_
    refine r_sub [1, 2, 3, 0] rfl ?_
    exact hq18 _ _ _ _ _ _ _ _ h
  · have h := ie h (fun q => c (lgc_eq.mpr q))
    refine r_iconst (pc := 1525) dL_law_1525 kc_iconst_0 ?_
    cases h
def fL_law_b1470 (q18 : (Shp) → (Nat → Nat → Int32) → (Nat → Nat → Int64) → (Nat → Nat → UInt64) → (Nat → Nat → Option Nat) → (Option Nat) → (Option Nat) → (Int32) → (Option (Unit))) (xs : Nat → Int32) (Lg : Nat) (σ : Shp) (I : Nat → Nat → Int32) (J : Nat → Nat → Int64) (D : Nat → Nat → UInt64) (R : Nat → Nat → Option Nat) (x1 : Option Nat) (x2 : Option Nat) (x3 : Int32) : Option Unit :=
  if ¬ ((x3 + (1 : Int32)) < 0 ∨ Lg ≤ Int32.toNatClampNeg (x3 + (1 : Int32))) then
  (x1 : Option Nat).bind fun a738 =>
  if kdx σ a738 = 12 then
  (fX11_card σ I R a738 (xs (Int32.toNatClampNeg (x3 + (1 : Int32))))).bind fun (σ740, I741, R742, r743) =>
  if nxx σ740 ≤ 600000 ∧ slx σ740 ≤ 7300000 then
  (x2 : Option Nat).bind fun a746 =>
  if kdx σ740 a746 = 13 then
  (fX12_card σ740 I741 R742 a746 (xs (Int32.toNatClampNeg (x3 + (1 : Int32))))).bind fun (I748, r749) =>
  if r743 = r749 then
    let v751 := x3 + (7 : Int32)
    q18 σ740 I748 J D R742 x1 x2 v751
  else
    none
  else none
  else none
  else none
  else none
set_option maxHeartbeats 8000000 in
set_option maxRecDepth 100000 in
theorem wL_law_b1470 {G : Gx} {l : Launch} {xs : Nat → Int32} {Lg : Nat} {σ0 : Shp} {σ : Shp} {I : Nat → Nat → Int32} {J : Nat → Nat → Int64} {D : Nat → Nat → UInt64} {R : Nat → Nat → Option Nat} {q18 : (Shp) → (Nat → Nat → Int32) → (Nat → Nat → Int64) → (Nat → Nat → UInt64) → (Nat → Nat → Option Nat) → (Option Nat) → (Option Nat) → (Int32) → (Option (Unit))} {x1 : Option Nat} {x2 : Option Nat} {x3 : Int32} (hq18 : ∀ (σ : Shp) (I : Nat → Nat → Int32) (J : Nat → Nat → Int64) (D : Nat → Nat → UInt64) (R : Nat → Nat → Option Nat) (x1 : Option Nat) (x2 : Option Nat) (x3 : Int32), q18 σ I J D R x1 x2 x3 = some () → WLaw G l xs Lg σ0 (σ, I, J, D, R) 18 [(0, vR (some 3)), (1, vR x1), (2, vR x2), (3, vI x3)] []) (h : fL_law_b1470 q18 xs Lg σ I J D R x1 x2 x3 = some ()) : WLaw G l xs Lg σ0 (σ, I, J, D, R) 1470 [(0, vR (some 3)), (1, vR x1), (2, vR x2), (3, vI x3)] [] := by
  unfold fL_law_b1470 at h
  refine r_aload_n (pc := 1470) dL_law_1470 rfl 1 rfl ?_
  refine r_aload_n (pc := 1471) dL_law_1471 rfl 0 rfl ?_
  refine r_iload_n (pc := 1472) dL_law_1472 rfl 3 rfl ?_
  refine r_iconst (pc := 1473) dL_law_1473 kc_iconst_1 ?_
  refine r_iadd (pc := 1474) dL_law_1474 ?_
  obtain ⟨g737, h⟩ := gd h
  refine r_scld (pc := 1475) dL_law_1475 g737 ?_
  obtain ⟨a738, ha738, h⟩ := ob h
  refine r_ref1 ha738 ?_
  obtain ⟨g739, h⟩ := gd h
  obtain ⟨⟨σ740, I741, R742, r743⟩, hc744, h⟩ := ob h
  obtain ⟨g745, h⟩ := gd h
  refine r_callV1 (pc := 1476) (av := [vI (xs (Int32.toNatClampNeg (x3 + (1 : Int32))))]) (S := []) dL_law_1476 (kX11_card hc744) g739 rfl mkL_124 mwX11_card rfl ⟨Nat.le_of_ble_eq_true rfl, Nat.le_of_ble_eq_true rfl⟩ (Nat.le_of_ble_eq_true rfl) (mX11_card hc744) (bdL (mX11_card hc744) g745) ?_
  refine r_aload_n (pc := 1479) dL_law_1479 rfl 2 rfl ?_
  refine r_aload_n (pc := 1480) dL_law_1480 rfl 0 rfl ?_
  refine r_iload_n (pc := 1481) dL_law_1481 rfl 3 rfl ?_
  refine r_iconst (pc := 1482) dL_law_1482 kc_iconst_1 ?_
  refine r_iadd (pc := 1483) dL_law_1483 ?_
  refine r_scld (pc := 1484) dL_law_1484 g737 ?_
  obtain ⟨a746, ha746, h⟩ := ob h
  refine r_ref1 ha746 ?_
  obtain ⟨g747, h⟩ := gd h
  obtain ⟨⟨I748, r749⟩, hc750, h⟩ := ob h
  refine r_callV1 (pc := 1485) (av := [vI (xs (Int32.toNatClampNeg (x3 + (1 : Int32))))]) (S := [vI r743]) dL_law_1485 (kX12_card hc750) g747 rfl mkL_127 mwX12_card rfl ⟨Nat.le_of_ble_eq_true rfl, Nat.le_of_ble_eq_true rfl⟩ (Nat.le_of_ble_eq_true rfl) ⟨Nat.le_refl _, Nat.le_refl _⟩ (fun b => b) ?_
  refine r_icmp_eq (pc := 1488) (tgt := 3270) dL_law_1488 rfl (fun c => ?_) (fun c => ?_)
  · have h := it h c
    refine r_iinc (pc := 3270) (v := (x3 + (7 : Int32))) (L' := [(3, vI (x3 + (7 : Int32))), (0, vR (some 3)), (1, vR x1), (2, vR x2)]) dL_law_3270 3 rfl (kc_inc_7 _) (by decide) rfl ?_
    refine r_goto (pc := 3273) (tgt := 18) dL_law_3273 rfl ?_
    refine r_sub [1, 2, 3, 0] rfl ?_
    exact hq18 _ _ _ _ _ _ _ _ h
  · have h := ie h c
    refine r_iconst (pc := 1491) dL_law_1491 kc_iconst_0 ?_
    cases h
def fL_law_b1447 (q18 : (Shp) → (Nat → Nat → Int32) → (Nat → Nat → Int64) → (Nat → Nat → UInt64) → (Nat → Nat → Option Nat) → (Option Nat) → (Option Nat) → (Int32) → (Option (Unit))) (xs : Nat → Int32) (Lg : Nat) (σ : Shp) (I : Nat → Nat → Int32) (J : Nat → Nat → Int64) (D : Nat → Nat → UInt64) (R : Nat → Nat → Option Nat) (x1 : Option Nat) (x2 : Option Nat) (x3 : Int32) : Option Unit :=
  if ¬ ((x3 + (1 : Int32)) < 0 ∨ Lg ≤ Int32.toNatClampNeg (x3 + (1 : Int32))) then
  (x1 : Option Nat).bind fun a753 =>
  if kdx σ a753 = 12 then
  (fX11_trace σ I R a753 (xs (Int32.toNatClampNeg (x3 + (1 : Int32))))).bind fun r755 =>
  (x2 : Option Nat).bind fun a757 =>
  if kdx σ a757 = 13 then
  (fX12_trace σ I R a757 (xs (Int32.toNatClampNeg (x3 + (1 : Int32))))).bind fun r759 =>
  if r755 = r759 then
    let v761 := x3 + (7 : Int32)
    q18 σ I J D R x1 x2 v761
  else
    none
  else none
  else none
  else none
set_option maxHeartbeats 8000000 in
set_option maxRecDepth 100000 in
theorem wL_law_b1447 {G : Gx} {l : Launch} {xs : Nat → Int32} {Lg : Nat} {σ0 : Shp} {σ : Shp} {I : Nat → Nat → Int32} {J : Nat → Nat → Int64} {D : Nat → Nat → UInt64} {R : Nat → Nat → Option Nat} {q18 : (Shp) → (Nat → Nat → Int32) → (Nat → Nat → Int64) → (Nat → Nat → UInt64) → (Nat → Nat → Option Nat) → (Option Nat) → (Option Nat) → (Int32) → (Option (Unit))} {x1 : Option Nat} {x2 : Option Nat} {x3 : Int32} (hq18 : ∀ (σ : Shp) (I : Nat → Nat → Int32) (J : Nat → Nat → Int64) (D : Nat → Nat → UInt64) (R : Nat → Nat → Option Nat) (x1 : Option Nat) (x2 : Option Nat) (x3 : Int32), q18 σ I J D R x1 x2 x3 = some () → WLaw G l xs Lg σ0 (σ, I, J, D, R) 18 [(0, vR (some 3)), (1, vR x1), (2, vR x2), (3, vI x3)] []) (h : fL_law_b1447 q18 xs Lg σ I J D R x1 x2 x3 = some ()) : WLaw G l xs Lg σ0 (σ, I, J, D, R) 1447 [(0, vR (some 3)), (1, vR x1), (2, vR x2), (3, vI x3)] [] := by
  unfold fL_law_b1447 at h
  refine r_aload_n (pc := 1447) dL_law_1447 rfl 1 rfl ?_
  refine r_aload_n (pc := 1448) dL_law_1448 rfl 0 rfl ?_
  refine r_iload_n (pc := 1449) dL_law_1449 rfl 3 rfl ?_
  refine r_iconst (pc := 1450) dL_law_1450 kc_iconst_1 ?_
  refine r_iadd (pc := 1451) dL_law_1451 ?_
  obtain ⟨g752, h⟩ := gd h
  refine r_scld (pc := 1452) dL_law_1452 g752 ?_
  obtain ⟨a753, ha753, h⟩ := ob h
  refine r_ref1 ha753 ?_
  obtain ⟨g754, h⟩ := gd h
  obtain ⟨r755, hc756, h⟩ := ob h
  refine r_callV1 (pc := 1453) (av := [vI (xs (Int32.toNatClampNeg (x3 + (1 : Int32))))]) (S := []) dL_law_1453 (kX11_trace hc756) g754 rfl mkL_120 mwX11_trace rfl ⟨Nat.le_of_ble_eq_true rfl, Nat.le_of_ble_eq_true rfl⟩ (Nat.le_of_ble_eq_true rfl) ⟨Nat.le_refl _, Nat.le_refl _⟩ (fun b => b) ?_
  refine r_aload_n (pc := 1456) dL_law_1456 rfl 2 rfl ?_
  refine r_aload_n (pc := 1457) dL_law_1457 rfl 0 rfl ?_
  refine r_iload_n (pc := 1458) dL_law_1458 rfl 3 rfl ?_
  refine r_iconst (pc := 1459) dL_law_1459 kc_iconst_1 ?_
  refine r_iadd (pc := 1460) dL_law_1460 ?_
  refine r_scld (pc := 1461) dL_law_1461 g752 ?_
  obtain ⟨a757, ha757, h⟩ := ob h
  refine r_ref1 ha757 ?_
  obtain ⟨g758, h⟩ := gd h
  obtain ⟨r759, hc760, h⟩ := ob h
  refine r_callV1 (pc := 1462) (av := [vI (xs (Int32.toNatClampNeg (x3 + (1 : Int32))))]) (S := [vI r755]) dL_law_1462 (kX12_trace hc760) g758 rfl mkL_123 mwX12_trace rfl ⟨Nat.le_of_ble_eq_true rfl, Nat.le_of_ble_eq_true rfl⟩ (Nat.le_of_ble_eq_true rfl) ⟨Nat.le_refl _, Nat.le_refl _⟩ (fun b => b) ?_
  refine r_icmp_eq (pc := 1465) (tgt := 3270) dL_law_1465 rfl (fun c => ?_) (fun c => ?_)
  · have h := it h c
    refine r_iinc (pc := 3270) (v := (x3 + (7 : Int32))) (L' := [(3, vI (x3 + (7 : Int32))), (0, vR (some 3)), (1, vR x1), (2, vR x2)]) dL_law_3270 3 rfl (kc_inc_7 _) (by decide) rfl ?_
    refine r_goto (pc := 3273) (tgt := 18) dL_law_3273 rfl ?_
    refine r_sub [1, 2, 3, 0] rfl ?_
    exact hq18 _ _ _ _ _ _ _ _ h
  · have h := ie h c
    refine r_iconst (pc := 1468) dL_law_1468 kc_iconst_0 ?_
    cases h
def fL_law_b1434 (q18 : (Shp) → (Nat → Nat → Int32) → (Nat → Nat → Int64) → (Nat → Nat → UInt64) → (Nat → Nat → Option Nat) → (Option Nat) → (Option Nat) → (Int32) → (Option (Unit))) (xs : Nat → Int32) (Lg : Nat) (σ : Shp) (I : Nat → Nat → Int32) (J : Nat → Nat → Int64) (D : Nat → Nat → UInt64) (R : Nat → Nat → Option Nat) (x1 : Option Nat) (x2 : Option Nat) (x3 : Int32) : Option Unit :=
  (x1 : Option Nat).bind fun a762 =>
  if kdx σ a762 = 12 then
  (fX11_answer σ I a762).bind fun r764 =>
  (x2 : Option Nat).bind fun a766 =>
  if kdx σ a766 = 13 then
  (fX12_answer σ I a766).bind fun r768 =>
  if r764 = r768 then
    let v770 := x3 + (7 : Int32)
    q18 σ I J D R x1 x2 v770
  else
    none
  else none
  else none
set_option maxHeartbeats 8000000 in
set_option maxRecDepth 100000 in
theorem wL_law_b1434 {G : Gx} {l : Launch} {xs : Nat → Int32} {Lg : Nat} {σ0 : Shp} {σ : Shp} {I : Nat → Nat → Int32} {J : Nat → Nat → Int64} {D : Nat → Nat → UInt64} {R : Nat → Nat → Option Nat} {q18 : (Shp) → (Nat → Nat → Int32) → (Nat → Nat → Int64) → (Nat → Nat → UInt64) → (Nat → Nat → Option Nat) → (Option Nat) → (Option Nat) → (Int32) → (Option (Unit))} {x1 : Option Nat} {x2 : Option Nat} {x3 : Int32} (hq18 : ∀ (σ : Shp) (I : Nat → Nat → Int32) (J : Nat → Nat → Int64) (D : Nat → Nat → UInt64) (R : Nat → Nat → Option Nat) (x1 : Option Nat) (x2 : Option Nat) (x3 : Int32), q18 σ I J D R x1 x2 x3 = some () → WLaw G l xs Lg σ0 (σ, I, J, D, R) 18 [(0, vR (some 3)), (1, vR x1), (2, vR x2), (3, vI x3)] []) (h : fL_law_b1434 q18 xs Lg σ I J D R x1 x2 x3 = some ()) : WLaw G l xs Lg σ0 (σ, I, J, D, R) 1434 [(0, vR (some 3)), (1, vR x1), (2, vR x2), (3, vI x3)] [] := by
  unfold fL_law_b1434 at h
  refine r_aload_n (pc := 1434) dL_law_1434 rfl 1 rfl ?_
  obtain ⟨a762, ha762, h⟩ := ob h
  refine r_ref0 ha762 ?_
  obtain ⟨g763, h⟩ := gd h
  obtain ⟨r764, hc765, h⟩ := ob h
  refine r_callV1 (pc := 1435) (av := []) (S := []) dL_law_1435 (kX11_answer hc765) g763 rfl mkL_116 mwX11_answer rfl ⟨Nat.le_of_ble_eq_true rfl, Nat.le_of_ble_eq_true rfl⟩ (Nat.le_of_ble_eq_true rfl) ⟨Nat.le_refl _, Nat.le_refl _⟩ (fun b => b) ?_
  refine r_aload_n (pc := 1438) dL_law_1438 rfl 2 rfl ?_
  obtain ⟨a766, ha766, h⟩ := ob h
  refine r_ref0 ha766 ?_
  obtain ⟨g767, h⟩ := gd h
  obtain ⟨r768, hc769, h⟩ := ob h
  refine r_callV1 (pc := 1439) (av := []) (S := [vI r764]) dL_law_1439 (kX12_answer hc769) g767 rfl mkL_119 mwX12_answer rfl ⟨Nat.le_of_ble_eq_true rfl, Nat.le_of_ble_eq_true rfl⟩ (Nat.le_of_ble_eq_true rfl) ⟨Nat.le_refl _, Nat.le_refl _⟩ (fun b => b) ?_
  refine r_icmp_eq (pc := 1442) (tgt := 3270) dL_law_1442 rfl (fun c => ?_) (fun c => ?_)
  · have h := it h c
    refine r_iinc (pc := 3270) (v := (x3 + (7 : Int32))) (L' := [(3, vI (x3 + (7 : Int32))), (0, vR (some 3)), (1, vR x1), (2, vR x2)]) dL_law_3270 3 rfl (kc_inc_7 _) (by decide) rfl ?_
    refine r_goto (pc := 3273) (tgt := 18) dL_law_3273 rfl ?_
    refine r_sub [1, 2, 3, 0] rfl ?_
    exact hq18 _ _ _ _ _ _ _ _ h
  · have h := ie h c
    refine r_iconst (pc := 1445) dL_law_1445 kc_iconst_0 ?_
    cases h
def fL_law_b1401 (q18 : (Shp) → (Nat → Nat → Int32) → (Nat → Nat → Int64) → (Nat → Nat → UInt64) → (Nat → Nat → Option Nat) → (Option Nat) → (Option Nat) → (Int32) → (Option (Unit))) (xs : Nat → Int32) (Lg : Nat) (σ : Shp) (I : Nat → Nat → Int32) (J : Nat → Nat → Int64) (D : Nat → Nat → UInt64) (R : Nat → Nat → Option Nat) (x1 : Option Nat) (x2 : Option Nat) (x3 : Int32) : Option Unit :=
  if ¬ ((x3 + (1 : Int32)) < 0 ∨ Lg ≤ Int32.toNatClampNeg (x3 + (1 : Int32))) then
  if ¬ ((x3 + (2 : Int32)) < 0 ∨ Lg ≤ Int32.toNatClampNeg (x3 + (2 : Int32))) then
  (x1 : Option Nat).bind fun a773 =>
  if kdx σ a773 = 12 then
  (fX11_ask σ I R a773 (xs (Int32.toNatClampNeg (x3 + (1 : Int32)))) (xs (Int32.toNatClampNeg (x3 + (2 : Int32))))).bind fun (I775, r776) =>
  (x2 : Option Nat).bind fun a778 =>
  if kdx σ a778 = 13 then
  (fX12_ask σ I775 R a778 (xs (Int32.toNatClampNeg (x3 + (1 : Int32)))) (xs (Int32.toNatClampNeg (x3 + (2 : Int32))))).bind fun (I780, r781) =>
  if r776 = r781 then
    let v783 := x3 + (7 : Int32)
    q18 σ I780 J D R x1 x2 v783
  else
    none
  else none
  else none
  else none
  else none
set_option maxHeartbeats 8000000 in
set_option maxRecDepth 100000 in
theorem wL_law_b1401 {G : Gx} {l : Launch} {xs : Nat → Int32} {Lg : Nat} {σ0 : Shp} {σ : Shp} {I : Nat → Nat → Int32} {J : Nat → Nat → Int64} {D : Nat → Nat → UInt64} {R : Nat → Nat → Option Nat} {q18 : (Shp) → (Nat → Nat → Int32) → (Nat → Nat → Int64) → (Nat → Nat → UInt64) → (Nat → Nat → Option Nat) → (Option Nat) → (Option Nat) → (Int32) → (Option (Unit))} {x1 : Option Nat} {x2 : Option Nat} {x3 : Int32} (hq18 : ∀ (σ : Shp) (I : Nat → Nat → Int32) (J : Nat → Nat → Int64) (D : Nat → Nat → UInt64) (R : Nat → Nat → Option Nat) (x1 : Option Nat) (x2 : Option Nat) (x3 : Int32), q18 σ I J D R x1 x2 x3 = some () → WLaw G l xs Lg σ0 (σ, I, J, D, R) 18 [(0, vR (some 3)), (1, vR x1), (2, vR x2), (3, vI x3)] []) (h : fL_law_b1401 q18 xs Lg σ I J D R x1 x2 x3 = some ()) : WLaw G l xs Lg σ0 (σ, I, J, D, R) 1401 [(0, vR (some 3)), (1, vR x1), (2, vR x2), (3, vI x3)] [] := by
  unfold fL_law_b1401 at h
  refine r_aload_n (pc := 1401) dL_law_1401 rfl 1 rfl ?_
  refine r_aload_n (pc := 1402) dL_law_1402 rfl 0 rfl ?_
  refine r_iload_n (pc := 1403) dL_law_1403 rfl 3 rfl ?_
  refine r_iconst (pc := 1404) dL_law_1404 kc_iconst_1 ?_
  refine r_iadd (pc := 1405) dL_law_1405 ?_
  obtain ⟨g771, h⟩ := gd h
  refine r_scld (pc := 1406) dL_law_1406 g771 ?_
  refine r_aload_n (pc := 1407) dL_law_1407 rfl 0 rfl ?_
  refine r_iload_n (pc := 1408) dL_law_1408 rfl 3 rfl ?_
  refine r_iconst (pc := 1409) dL_law_1409 kc_iconst_2 ?_
  refine r_iadd (pc := 1410) dL_law_1410 ?_
  obtain ⟨g772, h⟩ := gd h
  refine r_scld (pc := 1411) dL_law_1411 g772 ?_
  obtain ⟨a773, ha773, h⟩ := ob h
  refine r_ref2 ha773 ?_
  obtain ⟨g774, h⟩ := gd h
  obtain ⟨⟨I775, r776⟩, hc777, h⟩ := ob h
  refine r_callV1 (pc := 1412) (av := [vI (xs (Int32.toNatClampNeg (x3 + (1 : Int32)))), vI (xs (Int32.toNatClampNeg (x3 + (2 : Int32))))]) (S := []) dL_law_1412 (kX11_ask hc777) g774 rfl mkL_112 mwX11_ask rfl ⟨Nat.le_of_ble_eq_true rfl, Nat.le_of_ble_eq_true rfl⟩ (Nat.le_of_ble_eq_true rfl) ⟨Nat.le_refl _, Nat.le_refl _⟩ (fun b => b) ?_
  refine r_aload_n (pc := 1415) dL_law_1415 rfl 2 rfl ?_
  refine r_aload_n (pc := 1416) dL_law_1416 rfl 0 rfl ?_
  refine r_iload_n (pc := 1417) dL_law_1417 rfl 3 rfl ?_
  refine r_iconst (pc := 1418) dL_law_1418 kc_iconst_1 ?_
  refine r_iadd (pc := 1419) dL_law_1419 ?_
  refine r_scld (pc := 1420) dL_law_1420 g771 ?_
  refine r_aload_n (pc := 1421) dL_law_1421 rfl 0 rfl ?_
  refine r_iload_n (pc := 1422) dL_law_1422 rfl 3 rfl ?_
  refine r_iconst (pc := 1423) dL_law_1423 kc_iconst_2 ?_
  refine r_iadd (pc := 1424) dL_law_1424 ?_
  refine r_scld (pc := 1425) dL_law_1425 g772 ?_
  obtain ⟨a778, ha778, h⟩ := ob h
  refine r_ref2 ha778 ?_
  obtain ⟨g779, h⟩ := gd h
  obtain ⟨⟨I780, r781⟩, hc782, h⟩ := ob h
  refine r_callV1 (pc := 1426) (av := [vI (xs (Int32.toNatClampNeg (x3 + (1 : Int32)))), vI (xs (Int32.toNatClampNeg (x3 + (2 : Int32))))]) (S := [vI r776]) dL_law_1426 (kX12_ask hc782) g779 rfl mkL_115 mwX12_ask rfl ⟨Nat.le_of_ble_eq_true rfl, Nat.le_of_ble_eq_true rfl⟩ (Nat.le_of_ble_eq_true rfl) ⟨Nat.le_refl _, Nat.le_refl _⟩ (fun b => b) ?_
  refine r_icmp_eq (pc := 1429) (tgt := 3270) dL_law_1429 rfl (fun c => ?_) (fun c => ?_)
  · have h := it h c
    refine r_iinc (pc := 3270) (v := (x3 + (7 : Int32))) (L' := [(3, vI (x3 + (7 : Int32))), (0, vR (some 3)), (1, vR x1), (2, vR x2)]) dL_law_3270 3 rfl (kc_inc_7 _) (by decide) rfl ?_
    refine r_goto (pc := 3273) (tgt := 18) dL_law_3273 rfl ?_
    refine r_sub [1, 2, 3, 0] rfl ?_
    exact hq18 _ _ _ _ _ _ _ _ h
  · have h := ie h c
    refine r_iconst (pc := 1432) dL_law_1432 kc_iconst_0 ?_
    cases h
def fL_law_b1358 (q18 : (Shp) → (Nat → Nat → Int32) → (Nat → Nat → Int64) → (Nat → Nat → UInt64) → (Nat → Nat → Option Nat) → (Option Nat) → (Option Nat) → (Int32) → (Option (Unit))) (xs : Nat → Int32) (Lg : Nat) (σ : Shp) (I : Nat → Nat → Int32) (J : Nat → Nat → Int64) (D : Nat → Nat → UInt64) (R : Nat → Nat → Option Nat) (x1 : Option Nat) (x2 : Option Nat) (x3 : Int32) : Option Unit :=
  if ¬ ((x3 + (1 : Int32)) < 0 ∨ Lg ≤ Int32.toNatClampNeg (x3 + (1 : Int32))) then
  if ¬ ((x3 + (2 : Int32)) < 0 ∨ Lg ≤ Int32.toNatClampNeg (x3 + (2 : Int32))) then
  if ¬ ((x3 + (3 : Int32)) < 0 ∨ Lg ≤ Int32.toNatClampNeg (x3 + (3 : Int32))) then
  (x1 : Option Nat).bind fun a787 =>
  if kdx σ a787 = 12 then
  (fX11_tray σ I R a787 (xs (Int32.toNatClampNeg (x3 + (1 : Int32)))) (xs (Int32.toNatClampNeg (x3 + (2 : Int32)))) (xs (Int32.toNatClampNeg (x3 + (3 : Int32))))).bind fun (σ789, I790, R791, r792) =>
  if nxx σ789 ≤ 600000 ∧ slx σ789 ≤ 7300000 then
  (x2 : Option Nat).bind fun a795 =>
  if kdx σ789 a795 = 13 then
  (fX12_tray σ789 I790 R791 a795 (xs (Int32.toNatClampNeg (x3 + (1 : Int32)))) (xs (Int32.toNatClampNeg (x3 + (2 : Int32)))) (xs (Int32.toNatClampNeg (x3 + (3 : Int32))))).bind fun (I797, r798) =>
  if r792 = r798 then
    let v800 := x3 + (7 : Int32)
    q18 σ789 I797 J D R791 x1 x2 v800
  else
    none
  else none
  else none
  else none
  else none
  else none
  else none
set_option maxHeartbeats 8000000 in
set_option maxRecDepth 100000 in
theorem wL_law_b1358 {G : Gx} {l : Launch} {xs : Nat → Int32} {Lg : Nat} {σ0 : Shp} {σ : Shp} {I : Nat → Nat → Int32} {J : Nat → Nat → Int64} {D : Nat → Nat → UInt64} {R : Nat → Nat → Option Nat} {q18 : (Shp) → (Nat → Nat → Int32) → (Nat → Nat → Int64) → (Nat → Nat → UInt64) → (Nat → Nat → Option Nat) → (Option Nat) → (Option Nat) → (Int32) → (Option (Unit))} {x1 : Option Nat} {x2 : Option Nat} {x3 : Int32} (hq18 : ∀ (σ : Shp) (I : Nat → Nat → Int32) (J : Nat → Nat → Int64) (D : Nat → Nat → UInt64) (R : Nat → Nat → Option Nat) (x1 : Option Nat) (x2 : Option Nat) (x3 : Int32), q18 σ I J D R x1 x2 x3 = some () → WLaw G l xs Lg σ0 (σ, I, J, D, R) 18 [(0, vR (some 3)), (1, vR x1), (2, vR x2), (3, vI x3)] []) (h : fL_law_b1358 q18 xs Lg σ I J D R x1 x2 x3 = some ()) : WLaw G l xs Lg σ0 (σ, I, J, D, R) 1358 [(0, vR (some 3)), (1, vR x1), (2, vR x2), (3, vI x3)] [] := by
  unfold fL_law_b1358 at h
  refine r_aload_n (pc := 1358) dL_law_1358 rfl 1 rfl ?_
  refine r_aload_n (pc := 1359) dL_law_1359 rfl 0 rfl ?_
  refine r_iload_n (pc := 1360) dL_law_1360 rfl 3 rfl ?_
  refine r_iconst (pc := 1361) dL_law_1361 kc_iconst_1 ?_
  refine r_iadd (pc := 1362) dL_law_1362 ?_
  obtain ⟨g784, h⟩ := gd h
  refine r_scld (pc := 1363) dL_law_1363 g784 ?_
  refine r_aload_n (pc := 1364) dL_law_1364 rfl 0 rfl ?_
  refine r_iload_n (pc := 1365) dL_law_1365 rfl 3 rfl ?_
  refine r_iconst (pc := 1366) dL_law_1366 kc_iconst_2 ?_
  refine r_iadd (pc := 1367) dL_law_1367 ?_
  obtain ⟨g785, h⟩ := gd h
  refine r_scld (pc := 1368) dL_law_1368 g785 ?_
  refine r_aload_n (pc := 1369) dL_law_1369 rfl 0 rfl ?_
  refine r_iload_n (pc := 1370) dL_law_1370 rfl 3 rfl ?_
  refine r_iconst (pc := 1371) dL_law_1371 kc_iconst_3 ?_
  refine r_iadd (pc := 1372) dL_law_1372 ?_
  obtain ⟨g786, h⟩ := gd h
  refine r_scld (pc := 1373) dL_law_1373 g786 ?_
  obtain ⟨a787, ha787, h⟩ := ob h
  refine r_ref3 ha787 ?_
  obtain ⟨g788, h⟩ := gd h
  obtain ⟨⟨σ789, I790, R791, r792⟩, hc793, h⟩ := ob h
  obtain ⟨g794, h⟩ := gd h
  refine r_callV1 (pc := 1374) (av := [vI (xs (Int32.toNatClampNeg (x3 + (1 : Int32)))), vI (xs (Int32.toNatClampNeg (x3 + (2 : Int32)))), vI (xs (Int32.toNatClampNeg (x3 + (3 : Int32))))]) (S := []) dL_law_1374 (kX11_tray hc793) g788 rfl mkL_108 mwX11_tray rfl ⟨Nat.le_of_ble_eq_true rfl, Nat.le_of_ble_eq_true rfl⟩ (Nat.le_of_ble_eq_true rfl) (mX11_tray hc793) (bdL (mX11_tray hc793) g794) ?_
  refine r_aload_n (pc := 1377) dL_law_1377 rfl 2 rfl ?_
  refine r_aload_n (pc := 1378) dL_law_1378 rfl 0 rfl ?_
  refine r_iload_n (pc := 1379) dL_law_1379 rfl 3 rfl ?_
  refine r_iconst (pc := 1380) dL_law_1380 kc_iconst_1 ?_
  refine r_iadd (pc := 1381) dL_law_1381 ?_
  refine r_scld (pc := 1382) dL_law_1382 g784 ?_
  refine r_aload_n (pc := 1383) dL_law_1383 rfl 0 rfl ?_
  refine r_iload_n (pc := 1384) dL_law_1384 rfl 3 rfl ?_
  refine r_iconst (pc := 1385) dL_law_1385 kc_iconst_2 ?_
  refine r_iadd (pc := 1386) dL_law_1386 ?_
  refine r_scld (pc := 1387) dL_law_1387 g785 ?_
  refine r_aload_n (pc := 1388) dL_law_1388 rfl 0 rfl ?_
  refine r_iload_n (pc := 1389) dL_law_1389 rfl 3 rfl ?_
  refine r_iconst (pc := 1390) dL_law_1390 kc_iconst_3 ?_
  refine r_iadd (pc := 1391) dL_law_1391 ?_
  refine r_scld (pc := 1392) dL_law_1392 g786 ?_
  obtain ⟨a795, ha795, h⟩ := ob h
  refine r_ref3 ha795 ?_
  obtain ⟨g796, h⟩ := gd h
  obtain ⟨⟨I797, r798⟩, hc799, h⟩ := ob h
  refine r_callV1 (pc := 1393) (av := [vI (xs (Int32.toNatClampNeg (x3 + (1 : Int32)))), vI (xs (Int32.toNatClampNeg (x3 + (2 : Int32)))), vI (xs (Int32.toNatClampNeg (x3 + (3 : Int32))))]) (S := [vI r792]) dL_law_1393 (kX12_tray hc799) g796 rfl mkL_111 mwX12_tray rfl ⟨Nat.le_of_ble_eq_true rfl, Nat.le_of_ble_eq_true rfl⟩ (Nat.le_of_ble_eq_true rfl) ⟨Nat.le_refl _, Nat.le_refl _⟩ (fun b => b) ?_
  refine r_icmp_eq (pc := 1396) (tgt := 3270) dL_law_1396 rfl (fun c => ?_) (fun c => ?_)
  · have h := it h c
    refine r_iinc (pc := 3270) (v := (x3 + (7 : Int32))) (L' := [(3, vI (x3 + (7 : Int32))), (0, vR (some 3)), (1, vR x1), (2, vR x2)]) dL_law_3270 3 rfl (kc_inc_7 _) (by decide) rfl ?_
    refine r_goto (pc := 3273) (tgt := 18) dL_law_3273 rfl ?_
    refine r_sub [1, 2, 3, 0] rfl ?_
    exact hq18 _ _ _ _ _ _ _ _ h
  · have h := ie h c
    refine r_iconst (pc := 1399) dL_law_1399 kc_iconst_0 ?_
    cases h
def fL_law_b1283 (q18 : (Shp) → (Nat → Nat → Int32) → (Nat → Nat → Int64) → (Nat → Nat → UInt64) → (Nat → Nat → Option Nat) → (Option Nat) → (Option Nat) → (Int32) → (Option (Unit))) (xs : Nat → Int32) (Lg : Nat) (σ : Shp) (I : Nat → Nat → Int32) (J : Nat → Nat → Int64) (D : Nat → Nat → UInt64) (R : Nat → Nat → Option Nat) (x1 : Option Nat) (x2 : Option Nat) (x3 : Int32) : Option Unit :=
  if ¬ ((x3 + (1 : Int32)) < 0 ∨ Lg ≤ Int32.toNatClampNeg (x3 + (1 : Int32))) then
  if ¬ ((x3 + (2 : Int32)) < 0 ∨ Lg ≤ Int32.toNatClampNeg (x3 + (2 : Int32))) then
  if ¬ ((x3 + (3 : Int32)) < 0 ∨ Lg ≤ Int32.toNatClampNeg (x3 + (3 : Int32))) then
  if ¬ ((x3 + (4 : Int32)) < 0 ∨ Lg ≤ Int32.toNatClampNeg (x3 + (4 : Int32))) then
  if ¬ ((x3 + (5 : Int32)) < 0 ∨ Lg ≤ Int32.toNatClampNeg (x3 + (5 : Int32))) then
  if ¬ ((x3 + (6 : Int32)) < 0 ∨ Lg ≤ Int32.toNatClampNeg (x3 + (6 : Int32))) then
  (x1 : Option Nat).bind fun a807 =>
  if kdx σ a807 = 12 then
  (fX11_plant σ I R a807 (xs (Int32.toNatClampNeg (x3 + (1 : Int32)))) (xs (Int32.toNatClampNeg (x3 + (2 : Int32)))) (xs (Int32.toNatClampNeg (x3 + (3 : Int32)))) (xs (Int32.toNatClampNeg (x3 + (4 : Int32)))) (xs (Int32.toNatClampNeg (x3 + (5 : Int32)))) (xs (Int32.toNatClampNeg (x3 + (6 : Int32))))).bind fun (σ809, I810, R811, r812) =>
  if nxx σ809 ≤ 600000 ∧ slx σ809 ≤ 7300000 then
  (x2 : Option Nat).bind fun a815 =>
  if kdx σ809 a815 = 13 then
  (fX12_plant σ809 I810 R811 a815 (xs (Int32.toNatClampNeg (x3 + (1 : Int32)))) (xs (Int32.toNatClampNeg (x3 + (2 : Int32)))) (xs (Int32.toNatClampNeg (x3 + (3 : Int32)))) (xs (Int32.toNatClampNeg (x3 + (4 : Int32)))) (xs (Int32.toNatClampNeg (x3 + (5 : Int32)))) (xs (Int32.toNatClampNeg (x3 + (6 : Int32))))).bind fun (I817, r818) =>
  if r812 = r818 then
    let v820 := x3 + (7 : Int32)
    q18 σ809 I817 J D R811 x1 x2 v820
  else
    none
  else none
  else none
  else none
  else none
  else none
  else none
  else none
  else none
  else none
set_option maxHeartbeats 8000000 in
set_option maxRecDepth 100000 in
theorem wL_law_b1283 {G : Gx} {l : Launch} {xs : Nat → Int32} {Lg : Nat} {σ0 : Shp} {σ : Shp} {I : Nat → Nat → Int32} {J : Nat → Nat → Int64} {D : Nat → Nat → UInt64} {R : Nat → Nat → Option Nat} {q18 : (Shp) → (Nat → Nat → Int32) → (Nat → Nat → Int64) → (Nat → Nat → UInt64) → (Nat → Nat → Option Nat) → (Option Nat) → (Option Nat) → (Int32) → (Option (Unit))} {x1 : Option Nat} {x2 : Option Nat} {x3 : Int32} (hq18 : ∀ (σ : Shp) (I : Nat → Nat → Int32) (J : Nat → Nat → Int64) (D : Nat → Nat → UInt64) (R : Nat → Nat → Option Nat) (x1 : Option Nat) (x2 : Option Nat) (x3 : Int32), q18 σ I J D R x1 x2 x3 = some () → WLaw G l xs Lg σ0 (σ, I, J, D, R) 18 [(0, vR (some 3)), (1, vR x1), (2, vR x2), (3, vI x3)] []) (h : fL_law_b1283 q18 xs Lg σ I J D R x1 x2 x3 = some ()) : WLaw G l xs Lg σ0 (σ, I, J, D, R) 1283 [(0, vR (some 3)), (1, vR x1), (2, vR x2), (3, vI x3)] [] := by
  unfold fL_law_b1283 at h
  refine r_aload_n (pc := 1283) dL_law_1283 rfl 1 rfl ?_
  refine r_aload_n (pc := 1284) dL_law_1284 rfl 0 rfl ?_
  refine r_iload_n (pc := 1285) dL_law_1285 rfl 3 rfl ?_
  refine r_iconst (pc := 1286) dL_law_1286 kc_iconst_1 ?_
  refine r_iadd (pc := 1287) dL_law_1287 ?_
  obtain ⟨g801, h⟩ := gd h
  refine r_scld (pc := 1288) dL_law_1288 g801 ?_
  refine r_aload_n (pc := 1289) dL_law_1289 rfl 0 rfl ?_
  refine r_iload_n (pc := 1290) dL_law_1290 rfl 3 rfl ?_
  refine r_iconst (pc := 1291) dL_law_1291 kc_iconst_2 ?_
  refine r_iadd (pc := 1292) dL_law_1292 ?_
  obtain ⟨g802, h⟩ := gd h
  refine r_scld (pc := 1293) dL_law_1293 g802 ?_
  refine r_aload_n (pc := 1294) dL_law_1294 rfl 0 rfl ?_
  refine r_iload_n (pc := 1295) dL_law_1295 rfl 3 rfl ?_
  refine r_iconst (pc := 1296) dL_law_1296 kc_iconst_3 ?_
  refine r_iadd (pc := 1297) dL_law_1297 ?_
  obtain ⟨g803, h⟩ := gd h
  refine r_scld (pc := 1298) dL_law_1298 g803 ?_
  refine r_aload_n (pc := 1299) dL_law_1299 rfl 0 rfl ?_
  refine r_iload_n (pc := 1300) dL_law_1300 rfl 3 rfl ?_
  refine r_iconst (pc := 1301) dL_law_1301 kc_iconst_4 ?_
  refine r_iadd (pc := 1302) dL_law_1302 ?_
  obtain ⟨g804, h⟩ := gd h
  refine r_scld (pc := 1303) dL_law_1303 g804 ?_
  refine r_aload_n (pc := 1304) dL_law_1304 rfl 0 rfl ?_
  refine r_iload_n (pc := 1305) dL_law_1305 rfl 3 rfl ?_
  refine r_iconst (pc := 1306) dL_law_1306 kc_iconst_5 ?_
  refine r_iadd (pc := 1307) dL_law_1307 ?_
  obtain ⟨g805, h⟩ := gd h
  refine r_scld (pc := 1308) dL_law_1308 g805 ?_
  refine r_aload_n (pc := 1309) dL_law_1309 rfl 0 rfl ?_
  refine r_iload_n (pc := 1310) dL_law_1310 rfl 3 rfl ?_
  refine r_bipush (pc := 1311) dL_law_1311 kc_bipush_6 ?_
  refine r_iadd (pc := 1313) dL_law_1313 ?_
  obtain ⟨g806, h⟩ := gd h
  refine r_scld (pc := 1314) dL_law_1314 g806 ?_
  obtain ⟨a807, ha807, h⟩ := ob h
  refine r_ref6 ha807 ?_
  obtain ⟨g808, h⟩ := gd h
  obtain ⟨⟨σ809, I810, R811, r812⟩, hc813, h⟩ := ob h
  obtain ⟨g814, h⟩ := gd h
  refine r_callV1 (pc := 1315) (av := [vI (xs (Int32.toNatClampNeg (x3 + (1 : Int32)))), vI (xs (Int32.toNatClampNeg (x3 + (2 : Int32)))), vI (xs (Int32.toNatClampNeg (x3 + (3 : Int32)))), vI (xs (Int32.toNatClampNeg (x3 + (4 : Int32)))), vI (xs (Int32.toNatClampNeg (x3 + (5 : Int32)))), vI (xs (Int32.toNatClampNeg (x3 + (6 : Int32))))]) (S := []) dL_law_1315 (kX11_plant hc813) g808 rfl mkL_103 mwX11_plant rfl ⟨Nat.le_of_ble_eq_true rfl, Nat.le_of_ble_eq_true rfl⟩ (Nat.le_of_ble_eq_true rfl) (mX11_plant hc813) (bdL (mX11_plant hc813) g814) ?_
  refine r_aload_n (pc := 1318) dL_law_1318 rfl 2 rfl ?_
  refine r_aload_n (pc := 1319) dL_law_1319 rfl 0 rfl ?_
  refine r_iload_n (pc := 1320) dL_law_1320 rfl 3 rfl ?_
  refine r_iconst (pc := 1321) dL_law_1321 kc_iconst_1 ?_
  refine r_iadd (pc := 1322) dL_law_1322 ?_
  refine r_scld (pc := 1323) dL_law_1323 g801 ?_
  refine r_aload_n (pc := 1324) dL_law_1324 rfl 0 rfl ?_
  refine r_iload_n (pc := 1325) dL_law_1325 rfl 3 rfl ?_
  refine r_iconst (pc := 1326) dL_law_1326 kc_iconst_2 ?_
  refine r_iadd (pc := 1327) dL_law_1327 ?_
  refine r_scld (pc := 1328) dL_law_1328 g802 ?_
  refine r_aload_n (pc := 1329) dL_law_1329 rfl 0 rfl ?_
  refine r_iload_n (pc := 1330) dL_law_1330 rfl 3 rfl ?_
  refine r_iconst (pc := 1331) dL_law_1331 kc_iconst_3 ?_
  refine r_iadd (pc := 1332) dL_law_1332 ?_
  refine r_scld (pc := 1333) dL_law_1333 g803 ?_
  refine r_aload_n (pc := 1334) dL_law_1334 rfl 0 rfl ?_
  refine r_iload_n (pc := 1335) dL_law_1335 rfl 3 rfl ?_
  refine r_iconst (pc := 1336) dL_law_1336 kc_iconst_4 ?_
  refine r_iadd (pc := 1337) dL_law_1337 ?_
  refine r_scld (pc := 1338) dL_law_1338 g804 ?_
  refine r_aload_n (pc := 1339) dL_law_1339 rfl 0 rfl ?_
  refine r_iload_n (pc := 1340) dL_law_1340 rfl 3 rfl ?_
  refine r_iconst (pc := 1341) dL_law_1341 kc_iconst_5 ?_
  refine r_iadd (pc := 1342) dL_law_1342 ?_
  refine r_scld (pc := 1343) dL_law_1343 g805 ?_
  refine r_aload_n (pc := 1344) dL_law_1344 rfl 0 rfl ?_
  refine r_iload_n (pc := 1345) dL_law_1345 rfl 3 rfl ?_
  refine r_bipush (pc := 1346) dL_law_1346 kc_bipush_6 ?_
  refine r_iadd (pc := 1348) dL_law_1348 ?_
  refine r_scld (pc := 1349) dL_law_1349 g806 ?_
  obtain ⟨a815, ha815, h⟩ := ob h
  refine r_ref6 ha815 ?_
  obtain ⟨g816, h⟩ := gd h
  obtain ⟨⟨I817, r818⟩, hc819, h⟩ := ob h
  refine r_callV1 (pc := 1350) (av := [vI (xs (Int32.toNatClampNeg (x3 + (1 : Int32)))), vI (xs (Int32.toNatClampNeg (x3 + (2 : Int32)))), vI (xs (Int32.toNatClampNeg (x3 + (3 : Int32)))), vI (xs (Int32.toNatClampNeg (x3 + (4 : Int32)))), vI (xs (Int32.toNatClampNeg (x3 + (5 : Int32)))), vI (xs (Int32.toNatClampNeg (x3 + (6 : Int32))))]) (S := [vI r812]) dL_law_1350 (kX12_plant hc819) g816 rfl mkL_107 mwX12_plant rfl ⟨Nat.le_of_ble_eq_true rfl, Nat.le_of_ble_eq_true rfl⟩ (Nat.le_of_ble_eq_true rfl) ⟨Nat.le_refl _, Nat.le_refl _⟩ (fun b => b) ?_
  refine r_icmp_eq (pc := 1353) (tgt := 3270) dL_law_1353 rfl (fun c => ?_) (fun c => ?_)
  · have h := it h c
    refine r_iinc (pc := 3270) (v := (x3 + (7 : Int32))) (L' := [(3, vI (x3 + (7 : Int32))), (0, vR (some 3)), (1, vR x1), (2, vR x2)]) dL_law_3270 3 rfl (kc_inc_7 _) (by decide) rfl ?_
    refine r_goto (pc := 3273) (tgt := 18) dL_law_3273 rfl ?_
    refine r_sub [1, 2, 3, 0] rfl ?_
    exact hq18 _ _ _ _ _ _ _ _ h
  · have h := ie h c
    refine r_iconst (pc := 1356) dL_law_1356 kc_iconst_0 ?_
    cases h
def fL_law_b1250 (q18 : (Shp) → (Nat → Nat → Int32) → (Nat → Nat → Int64) → (Nat → Nat → UInt64) → (Nat → Nat → Option Nat) → (Option Nat) → (Option Nat) → (Int32) → (Option (Unit))) (xs : Nat → Int32) (Lg : Nat) (σ : Shp) (I : Nat → Nat → Int32) (J : Nat → Nat → Int64) (D : Nat → Nat → UInt64) (R : Nat → Nat → Option Nat) (x1 : Option Nat) (x2 : Option Nat) (x3 : Int32) : Option Unit :=
  if ¬ ((x3 + (1 : Int32)) < 0 ∨ Lg ≤ Int32.toNatClampNeg (x3 + (1 : Int32))) then
  if ¬ ((x3 + (2 : Int32)) < 0 ∨ Lg ≤ Int32.toNatClampNeg (x3 + (2 : Int32))) then
  (x1 : Option Nat).bind fun a823 =>
  if kdx σ a823 = 12 then
  (fX11_size σ I R a823 (xs (Int32.toNatClampNeg (x3 + (1 : Int32)))) (xs (Int32.toNatClampNeg (x3 + (2 : Int32))))).bind fun (I825, r826) =>
  (x2 : Option Nat).bind fun a828 =>
  if kdx σ a828 = 13 then
  (fX12_size σ I825 R a828 (xs (Int32.toNatClampNeg (x3 + (1 : Int32)))) (xs (Int32.toNatClampNeg (x3 + (2 : Int32))))).bind fun (I830, r831) =>
  if r826 = r831 then
    let v833 := x3 + (7 : Int32)
    q18 σ I830 J D R x1 x2 v833
  else
    none
  else none
  else none
  else none
  else none
set_option maxHeartbeats 8000000 in
set_option maxRecDepth 100000 in
theorem wL_law_b1250 {G : Gx} {l : Launch} {xs : Nat → Int32} {Lg : Nat} {σ0 : Shp} {σ : Shp} {I : Nat → Nat → Int32} {J : Nat → Nat → Int64} {D : Nat → Nat → UInt64} {R : Nat → Nat → Option Nat} {q18 : (Shp) → (Nat → Nat → Int32) → (Nat → Nat → Int64) → (Nat → Nat → UInt64) → (Nat → Nat → Option Nat) → (Option Nat) → (Option Nat) → (Int32) → (Option (Unit))} {x1 : Option Nat} {x2 : Option Nat} {x3 : Int32} (hq18 : ∀ (σ : Shp) (I : Nat → Nat → Int32) (J : Nat → Nat → Int64) (D : Nat → Nat → UInt64) (R : Nat → Nat → Option Nat) (x1 : Option Nat) (x2 : Option Nat) (x3 : Int32), q18 σ I J D R x1 x2 x3 = some () → WLaw G l xs Lg σ0 (σ, I, J, D, R) 18 [(0, vR (some 3)), (1, vR x1), (2, vR x2), (3, vI x3)] []) (h : fL_law_b1250 q18 xs Lg σ I J D R x1 x2 x3 = some ()) : WLaw G l xs Lg σ0 (σ, I, J, D, R) 1250 [(0, vR (some 3)), (1, vR x1), (2, vR x2), (3, vI x3)] [] := by
  unfold fL_law_b1250 at h
  refine r_aload_n (pc := 1250) dL_law_1250 rfl 1 rfl ?_
  refine r_aload_n (pc := 1251) dL_law_1251 rfl 0 rfl ?_
  refine r_iload_n (pc := 1252) dL_law_1252 rfl 3 rfl ?_
  refine r_iconst (pc := 1253) dL_law_1253 kc_iconst_1 ?_
  refine r_iadd (pc := 1254) dL_law_1254 ?_
  obtain ⟨g821, h⟩ := gd h
  refine r_scld (pc := 1255) dL_law_1255 g821 ?_
  refine r_aload_n (pc := 1256) dL_law_1256 rfl 0 rfl ?_
  refine r_iload_n (pc := 1257) dL_law_1257 rfl 3 rfl ?_
  refine r_iconst (pc := 1258) dL_law_1258 kc_iconst_2 ?_
  refine r_iadd (pc := 1259) dL_law_1259 ?_
  obtain ⟨g822, h⟩ := gd h
  refine r_scld (pc := 1260) dL_law_1260 g822 ?_
  obtain ⟨a823, ha823, h⟩ := ob h
  refine r_ref2 ha823 ?_
  obtain ⟨g824, h⟩ := gd h
  obtain ⟨⟨I825, r826⟩, hc827, h⟩ := ob h
  refine r_callV1 (pc := 1261) (av := [vI (xs (Int32.toNatClampNeg (x3 + (1 : Int32)))), vI (xs (Int32.toNatClampNeg (x3 + (2 : Int32))))]) (S := []) dL_law_1261 (kX11_size hc827) g824 rfl mkL_99 mwX11_size rfl ⟨Nat.le_of_ble_eq_true rfl, Nat.le_of_ble_eq_true rfl⟩ (Nat.le_of_ble_eq_true rfl) ⟨Nat.le_refl _, Nat.le_refl _⟩ (fun b => b) ?_
  refine r_aload_n (pc := 1264) dL_law_1264 rfl 2 rfl ?_
  refine r_aload_n (pc := 1265) dL_law_1265 rfl 0 rfl ?_
  refine r_iload_n (pc := 1266) dL_law_1266 rfl 3 rfl ?_
  refine r_iconst (pc := 1267) dL_law_1267 kc_iconst_1 ?_
  refine r_iadd (pc := 1268) dL_law_1268 ?_
  refine r_scld (pc := 1269) dL_law_1269 g821 ?_
  refine r_aload_n (pc := 1270) dL_law_1270 rfl 0 rfl ?_
  refine r_iload_n (pc := 1271) dL_law_1271 rfl 3 rfl ?_
  refine r_iconst (pc := 1272) dL_law_1272 kc_iconst_2 ?_
  refine r_iadd (pc := 1273) dL_law_1273 ?_
  refine r_scld (pc := 1274) dL_law_1274 g822 ?_
  obtain ⟨a828, ha828, h⟩ := ob h
  refine r_ref2 ha828 ?_
  obtain ⟨g829, h⟩ := gd h
  obtain ⟨⟨I830, r831⟩, hc832, h⟩ := ob h
  refine r_callV1 (pc := 1275) (av := [vI (xs (Int32.toNatClampNeg (x3 + (1 : Int32)))), vI (xs (Int32.toNatClampNeg (x3 + (2 : Int32))))]) (S := [vI r826]) dL_law_1275 (kX12_size hc832) g829 rfl mkL_102 mwX12_size rfl ⟨Nat.le_of_ble_eq_true rfl, Nat.le_of_ble_eq_true rfl⟩ (Nat.le_of_ble_eq_true rfl) ⟨Nat.le_refl _, Nat.le_refl _⟩ (fun b => b) ?_
  refine r_icmp_eq (pc := 1278) (tgt := 3270) dL_law_1278 rfl (fun c => ?_) (fun c => ?_)
  · have h := it h c
    refine r_iinc (pc := 3270) (v := (x3 + (7 : Int32))) (L' := [(3, vI (x3 + (7 : Int32))), (0, vR (some 3)), (1, vR x1), (2, vR x2)]) dL_law_3270 3 rfl (kc_inc_7 _) (by decide) rfl ?_
    refine r_goto (pc := 3273) (tgt := 18) dL_law_3273 rfl ?_
    refine r_sub [1, 2, 3, 0] rfl ?_
    exact hq18 _ _ _ _ _ _ _ _ h
  · have h := ie h c
    refine r_iconst (pc := 1281) dL_law_1281 kc_iconst_0 ?_
    cases h
def fL_law_b1217 (q18 : (Shp) → (Nat → Nat → Int32) → (Nat → Nat → Int64) → (Nat → Nat → UInt64) → (Nat → Nat → Option Nat) → (Option Nat) → (Option Nat) → (Int32) → (Option (Unit))) (xs : Nat → Int32) (Lg : Nat) (σ : Shp) (I : Nat → Nat → Int32) (J : Nat → Nat → Int64) (D : Nat → Nat → UInt64) (R : Nat → Nat → Option Nat) (x1 : Option Nat) (x2 : Option Nat) (x3 : Int32) : Option Unit :=
  if ¬ ((x3 + (1 : Int32)) < 0 ∨ Lg ≤ Int32.toNatClampNeg (x3 + (1 : Int32))) then
  if ¬ ((x3 + (2 : Int32)) < 0 ∨ Lg ≤ Int32.toNatClampNeg (x3 + (2 : Int32))) then
  (x1 : Option Nat).bind fun a836 =>
  if kdx σ a836 = 12 then
  (fX11_alike σ I J R a836 (xs (Int32.toNatClampNeg (x3 + (1 : Int32)))) (xs (Int32.toNatClampNeg (x3 + (2 : Int32))))).bind fun r838 =>
  (x2 : Option Nat).bind fun a840 =>
  if kdx σ a840 = 13 then
  (fX12_alike σ I J R a840 (xs (Int32.toNatClampNeg (x3 + (1 : Int32)))) (xs (Int32.toNatClampNeg (x3 + (2 : Int32))))).bind fun r842 =>
  if r838 = r842 then
    let v844 := x3 + (7 : Int32)
    q18 σ I J D R x1 x2 v844
  else
    none
  else none
  else none
  else none
  else none
set_option maxHeartbeats 8000000 in
set_option maxRecDepth 100000 in
theorem wL_law_b1217 {G : Gx} {l : Launch} {xs : Nat → Int32} {Lg : Nat} {σ0 : Shp} {σ : Shp} {I : Nat → Nat → Int32} {J : Nat → Nat → Int64} {D : Nat → Nat → UInt64} {R : Nat → Nat → Option Nat} {q18 : (Shp) → (Nat → Nat → Int32) → (Nat → Nat → Int64) → (Nat → Nat → UInt64) → (Nat → Nat → Option Nat) → (Option Nat) → (Option Nat) → (Int32) → (Option (Unit))} {x1 : Option Nat} {x2 : Option Nat} {x3 : Int32} (hq18 : ∀ (σ : Shp) (I : Nat → Nat → Int32) (J : Nat → Nat → Int64) (D : Nat → Nat → UInt64) (R : Nat → Nat → Option Nat) (x1 : Option Nat) (x2 : Option Nat) (x3 : Int32), q18 σ I J D R x1 x2 x3 = some () → WLaw G l xs Lg σ0 (σ, I, J, D, R) 18 [(0, vR (some 3)), (1, vR x1), (2, vR x2), (3, vI x3)] []) (h : fL_law_b1217 q18 xs Lg σ I J D R x1 x2 x3 = some ()) : WLaw G l xs Lg σ0 (σ, I, J, D, R) 1217 [(0, vR (some 3)), (1, vR x1), (2, vR x2), (3, vI x3)] [] := by
  unfold fL_law_b1217 at h
  refine r_aload_n (pc := 1217) dL_law_1217 rfl 1 rfl ?_
  refine r_aload_n (pc := 1218) dL_law_1218 rfl 0 rfl ?_
  refine r_iload_n (pc := 1219) dL_law_1219 rfl 3 rfl ?_
  refine r_iconst (pc := 1220) dL_law_1220 kc_iconst_1 ?_
  refine r_iadd (pc := 1221) dL_law_1221 ?_
  obtain ⟨g834, h⟩ := gd h
  refine r_scld (pc := 1222) dL_law_1222 g834 ?_
  refine r_aload_n (pc := 1223) dL_law_1223 rfl 0 rfl ?_
  refine r_iload_n (pc := 1224) dL_law_1224 rfl 3 rfl ?_
  refine r_iconst (pc := 1225) dL_law_1225 kc_iconst_2 ?_
  refine r_iadd (pc := 1226) dL_law_1226 ?_
  obtain ⟨g835, h⟩ := gd h
  refine r_scld (pc := 1227) dL_law_1227 g835 ?_
  obtain ⟨a836, ha836, h⟩ := ob h
  refine r_ref2 ha836 ?_
  obtain ⟨g837, h⟩ := gd h
  obtain ⟨r838, hc839, h⟩ := ob h
  refine r_callV1 (pc := 1228) (av := [vI (xs (Int32.toNatClampNeg (x3 + (1 : Int32)))), vI (xs (Int32.toNatClampNeg (x3 + (2 : Int32))))]) (S := []) dL_law_1228 (kX11_alike hc839) g837 rfl mkL_95 mwX11_alike rfl ⟨Nat.le_of_ble_eq_true rfl, Nat.le_of_ble_eq_true rfl⟩ (Nat.le_of_ble_eq_true rfl) ⟨Nat.le_refl _, Nat.le_refl _⟩ (fun b => b) ?_
  refine r_aload_n (pc := 1231) dL_law_1231 rfl 2 rfl ?_
  refine r_aload_n (pc := 1232) dL_law_1232 rfl 0 rfl ?_
  refine r_iload_n (pc := 1233) dL_law_1233 rfl 3 rfl ?_
  refine r_iconst (pc := 1234) dL_law_1234 kc_iconst_1 ?_
  refine r_iadd (pc := 1235) dL_law_1235 ?_
  refine r_scld (pc := 1236) dL_law_1236 g834 ?_
  refine r_aload_n (pc := 1237) dL_law_1237 rfl 0 rfl ?_
  refine r_iload_n (pc := 1238) dL_law_1238 rfl 3 rfl ?_
  refine r_iconst (pc := 1239) dL_law_1239 kc_iconst_2 ?_
  refine r_iadd (pc := 1240) dL_law_1240 ?_
  refine r_scld (pc := 1241) dL_law_1241 g835 ?_
  obtain ⟨a840, ha840, h⟩ := ob h
  refine r_ref2 ha840 ?_
  obtain ⟨g841, h⟩ := gd h
  obtain ⟨r842, hc843, h⟩ := ob h
  refine r_callV1 (pc := 1242) (av := [vI (xs (Int32.toNatClampNeg (x3 + (1 : Int32)))), vI (xs (Int32.toNatClampNeg (x3 + (2 : Int32))))]) (S := [vI r838]) dL_law_1242 (kX12_alike hc843) g841 rfl mkL_98 mwX12_alike rfl ⟨Nat.le_of_ble_eq_true rfl, Nat.le_of_ble_eq_true rfl⟩ (Nat.le_of_ble_eq_true rfl) ⟨Nat.le_refl _, Nat.le_refl _⟩ (fun b => b) ?_
  refine r_icmp_eq (pc := 1245) (tgt := 3270) dL_law_1245 rfl (fun c => ?_) (fun c => ?_)
  · have h := it h c
    refine r_iinc (pc := 3270) (v := (x3 + (7 : Int32))) (L' := [(3, vI (x3 + (7 : Int32))), (0, vR (some 3)), (1, vR x1), (2, vR x2)]) dL_law_3270 3 rfl (kc_inc_7 _) (by decide) rfl ?_
    refine r_goto (pc := 3273) (tgt := 18) dL_law_3273 rfl ?_
    refine r_sub [1, 2, 3, 0] rfl ?_
    exact hq18 _ _ _ _ _ _ _ _ h
  · have h := ie h c
    refine r_iconst (pc := 1248) dL_law_1248 kc_iconst_0 ?_
    cases h
def fL_law_b1158 (q18 : (Shp) → (Nat → Nat → Int32) → (Nat → Nat → Int64) → (Nat → Nat → UInt64) → (Nat → Nat → Option Nat) → (Option Nat) → (Option Nat) → (Int32) → (Option (Unit))) (xs : Nat → Int32) (Lg : Nat) (σ : Shp) (I : Nat → Nat → Int32) (J : Nat → Nat → Int64) (D : Nat → Nat → UInt64) (R : Nat → Nat → Option Nat) (x1 : Option Nat) (x2 : Option Nat) (x3 : Int32) : Option Unit :=
  if ¬ ((x3 + (1 : Int32)) < 0 ∨ Lg ≤ Int32.toNatClampNeg (x3 + (1 : Int32))) then
  if ¬ ((x3 + (2 : Int32)) < 0 ∨ Lg ≤ Int32.toNatClampNeg (x3 + (2 : Int32))) then
  if ¬ ((x3 + (3 : Int32)) < 0 ∨ Lg ≤ Int32.toNatClampNeg (x3 + (3 : Int32))) then
  if (xs (Int32.toNatClampNeg (x3 + (3 : Int32)))) = 0 then
    (x1 : Option Nat).bind fun a848 =>
    if kdx σ a848 = 12 then
    (fX11_copy σ I J R a848 (xs (Int32.toNatClampNeg (x3 + (1 : Int32)))) (xs (Int32.toNatClampNeg (x3 + (2 : Int32)))) (0 : Int32)).bind fun (σ850, I851, J852, R853, r854) =>
    if nxx σ850 ≤ 600000 ∧ slx σ850 ≤ 7300000 then
    if (xs (Int32.toNatClampNeg (x3 + (3 : Int32)))) = 0 then
      (x2 : Option Nat).bind fun a857 =>
      if kdx σ850 a857 = 13 then
      (fX12_copy σ850 I851 J852 R853 a857 (xs (Int32.toNatClampNeg (x3 + (1 : Int32)))) (xs (Int32.toNatClampNeg (x3 + (2 : Int32)))) (0 : Int32)).bind fun (I859, J860, r861) =>
      if r854 = r861 then
        let v863 := x3 + (7 : Int32)
        q18 σ850 I859 J860 D R853 x1 x2 v863
      else
        none
      else none
    else
      (x2 : Option Nat).bind fun a864 =>
      if kdx σ850 a864 = 13 then
      (fX12_copy σ850 I851 J852 R853 a864 (xs (Int32.toNatClampNeg (x3 + (1 : Int32)))) (xs (Int32.toNatClampNeg (x3 + (2 : Int32)))) (1 : Int32)).bind fun (I866, J867, r868) =>
      if r854 = r868 then
        let v870 := x3 + (7 : Int32)
        q18 σ850 I866 J867 D R853 x1 x2 v870
      else
        none
      else none
    else none
    else none
  else
    (x1 : Option Nat).bind fun a871 =>
    if kdx σ a871 = 12 then
    (fX11_copy σ I J R a871 (xs (Int32.toNatClampNeg (x3 + (1 : Int32)))) (xs (Int32.toNatClampNeg (x3 + (2 : Int32)))) (1 : Int32)).bind fun (σ873, I874, J875, R876, r877) =>
    if nxx σ873 ≤ 600000 ∧ slx σ873 ≤ 7300000 then
    if (xs (Int32.toNatClampNeg (x3 + (3 : Int32)))) = 0 then
      (x2 : Option Nat).bind fun a880 =>
      if kdx σ873 a880 = 13 then
      (fX12_copy σ873 I874 J875 R876 a880 (xs (Int32.toNatClampNeg (x3 + (1 : Int32)))) (xs (Int32.toNatClampNeg (x3 + (2 : Int32)))) (0 : Int32)).bind fun (I882, J883, r884) =>
      if r877 = r884 then
        let v886 := x3 + (7 : Int32)
        q18 σ873 I882 J883 D R876 x1 x2 v886
      else
        none
      else none
    else
      (x2 : Option Nat).bind fun a887 =>
      if kdx σ873 a887 = 13 then
      (fX12_copy σ873 I874 J875 R876 a887 (xs (Int32.toNatClampNeg (x3 + (1 : Int32)))) (xs (Int32.toNatClampNeg (x3 + (2 : Int32)))) (1 : Int32)).bind fun (I889, J890, r891) =>
      if r877 = r891 then
        let v893 := x3 + (7 : Int32)
        q18 σ873 I889 J890 D R876 x1 x2 v893
      else
        none
      else none
    else none
    else none
  else none
  else none
  else none
set_option maxHeartbeats 8000000 in
set_option maxRecDepth 100000 in
theorem wL_law_b1158 {G : Gx} {l : Launch} {xs : Nat → Int32} {Lg : Nat} {σ0 : Shp} {σ : Shp} {I : Nat → Nat → Int32} {J : Nat → Nat → Int64} {D : Nat → Nat → UInt64} {R : Nat → Nat → Option Nat} {q18 : (Shp) → (Nat → Nat → Int32) → (Nat → Nat → Int64) → (Nat → Nat → UInt64) → (Nat → Nat → Option Nat) → (Option Nat) → (Option Nat) → (Int32) → (Option (Unit))} {x1 : Option Nat} {x2 : Option Nat} {x3 : Int32} (hq18 : ∀ (σ : Shp) (I : Nat → Nat → Int32) (J : Nat → Nat → Int64) (D : Nat → Nat → UInt64) (R : Nat → Nat → Option Nat) (x1 : Option Nat) (x2 : Option Nat) (x3 : Int32), q18 σ I J D R x1 x2 x3 = some () → WLaw G l xs Lg σ0 (σ, I, J, D, R) 18 [(0, vR (some 3)), (1, vR x1), (2, vR x2), (3, vI x3)] []) (h : fL_law_b1158 q18 xs Lg σ I J D R x1 x2 x3 = some ()) : WLaw G l xs Lg σ0 (σ, I, J, D, R) 1158 [(0, vR (some 3)), (1, vR x1), (2, vR x2), (3, vI x3)] [] := by
  unfold fL_law_b1158 at h
  refine r_aload_n (pc := 1158) dL_law_1158 rfl 1 rfl ?_
  refine r_aload_n (pc := 1159) dL_law_1159 rfl 0 rfl ?_
  refine r_iload_n (pc := 1160) dL_law_1160 rfl 3 rfl ?_
  refine r_iconst (pc := 1161) dL_law_1161 kc_iconst_1 ?_
  refine r_iadd (pc := 1162) dL_law_1162 ?_
  obtain ⟨g845, h⟩ := gd h
  refine r_scld (pc := 1163) dL_law_1163 g845 ?_
  refine r_aload_n (pc := 1164) dL_law_1164 rfl 0 rfl ?_
  refine r_iload_n (pc := 1165) dL_law_1165 rfl 3 rfl ?_
  refine r_iconst (pc := 1166) dL_law_1166 kc_iconst_2 ?_
  refine r_iadd (pc := 1167) dL_law_1167 ?_
  obtain ⟨g846, h⟩ := gd h
  refine r_scld (pc := 1168) dL_law_1168 g846 ?_
  refine r_aload_n (pc := 1169) dL_law_1169 rfl 0 rfl ?_
  refine r_iload_n (pc := 1170) dL_law_1170 rfl 3 rfl ?_
  refine r_iconst (pc := 1171) dL_law_1171 kc_iconst_3 ?_
  refine r_iadd (pc := 1172) dL_law_1172 ?_
  obtain ⟨g847, h⟩ := gd h
  refine r_scld (pc := 1173) dL_law_1173 g847 ?_
  refine r_if_eq (pc := 1174) (tgt := 1181) dL_law_1174 rfl (fun c => ?_) (fun c => ?_)
  · have h := it h c
    refine r_iconst (pc := 1181) dL_law_1181 kc_iconst_0 ?_
    obtain ⟨a848, ha848, h⟩ := ob h
    refine r_ref3 ha848 ?_
    obtain ⟨g849, h⟩ := gd h
    obtain ⟨⟨σ850, I851, J852, R853, r854⟩, hc855, h⟩ := ob h
    obtain ⟨g856, h⟩ := gd h
    refine r_callV1 (pc := 1182) (av := [vI (xs (Int32.toNatClampNeg (x3 + (1 : Int32)))), vI (xs (Int32.toNatClampNeg (x3 + (2 : Int32)))), vI (0 : Int32)]) (S := []) dL_law_1182 (kX11_copy hc855) g849 rfl mkL_90 mwX11_copy rfl ⟨Nat.le_of_ble_eq_true rfl, Nat.le_of_ble_eq_true rfl⟩ (Nat.le_of_ble_eq_true rfl) (mX11_copy hc855) (bdL (mX11_copy hc855) g856) ?_
    refine r_aload_n (pc := 1185) dL_law_1185 rfl 2 rfl ?_
    refine r_aload_n (pc := 1186) dL_law_1186 rfl 0 rfl ?_
    refine r_iload_n (pc := 1187) dL_law_1187 rfl 3 rfl ?_
    refine r_iconst (pc := 1188) dL_law_1188 kc_iconst_1 ?_
    refine r_iadd (pc := 1189) dL_law_1189 ?_
    refine r_scld (pc := 1190) dL_law_1190 g845 ?_
    refine r_aload_n (pc := 1191) dL_law_1191 rfl 0 rfl ?_
    refine r_iload_n (pc := 1192) dL_law_1192 rfl 3 rfl ?_
    refine r_iconst (pc := 1193) dL_law_1193 kc_iconst_2 ?_
    refine r_iadd (pc := 1194) dL_law_1194 ?_
    refine r_scld (pc := 1195) dL_law_1195 g846 ?_
    refine r_aload_n (pc := 1196) dL_law_1196 rfl 0 rfl ?_
    refine r_iload_n (pc := 1197) dL_law_1197 rfl 3 rfl ?_
    refine r_iconst (pc := 1198) dL_law_1198 kc_iconst_3 ?_
    refine r_iadd (pc := 1199) dL_law_1199 ?_
    refine r_scld (pc := 1200) dL_law_1200 g847 ?_
    refine r_if_eq (pc := 1201) (tgt := 1208) dL_law_1201 rfl (fun c => ?_) (fun c => ?_)
    · have h := it h c
      refine r_iconst (pc := 1208) dL_law_1208 kc_iconst_0 ?_
      obtain ⟨a857, ha857, h⟩ := ob h
      refine r_ref3 ha857 ?_
      obtain ⟨g858, h⟩ := gd h
      obtain ⟨⟨I859, J860, r861⟩, hc862, h⟩ := ob h
      refine r_callV1 (pc := 1209) (av := [vI (xs (Int32.toNatClampNeg (x3 + (1 : Int32)))), vI (xs (Int32.toNatClampNeg (x3 + (2 : Int32)))), vI (0 : Int32)]) (S := [vI r854]) dL_law_1209 (kX12_copy hc862) g858 rfl mkL_94 mwX12_copy rfl ⟨Nat.le_of_ble_eq_true rfl, Nat.le_of_ble_eq_true rfl⟩ (Nat.le_of_ble_eq_true rfl) ⟨Nat.le_refl _, Nat.le_refl _⟩ (fun b => b) ?_
      refine r_icmp_eq (pc := 1212) (tgt := 3270) dL_law_1212 rfl (fun c => ?_) (fun c => ?_)
      · have h := it h c
        refine r_iinc (pc := 3270) (v := (x3 + (7 : Int32))) (L' := [(3, vI (x3 + (7 : Int32))), (0, vR (some 3)), (1, vR x1), (2, vR x2)]) dL_law_3270 3 rfl (kc_inc_7 _) (by decide) rfl ?_
        refine r_goto (pc := 3273) (tgt := 18) dL_law_3273 rfl ?_
        refine r_sub [1, 2, 3, 0] rfl ?_
        exact hq18 _ _ _ _ _ _ _ _ h
      · have h := ie h c
        refine r_iconst (pc := 1215) dL_law_1215 kc_iconst_0 ?_
        cases h
    · have h := ie h c
      refine r_iconst (pc := 1204) dL_law_1204 kc_iconst_1 ?_
      refine r_goto (pc := 1205) (tgt := 1209) dL_law_1205 rfl ?_
      obtain ⟨a864, ha864, h⟩ := ob h
      refine r_ref3 ha864 ?_
      obtain ⟨g865, h⟩ := gd h
      obtain ⟨⟨I866, J867, r868⟩, hc869, h⟩ := ob h
      refine r_callV1 (pc := 1209) (av := [vI (xs (Int32.toNatClampNeg (x3 + (1 : Int32)))), vI (xs (Int32.toNatClampNeg (x3 + (2 : Int32)))), vI (1 : Int32)]) (S := [vI r854]) dL_law_1209 (kX12_copy hc869) g865 rfl mkL_94 mwX12_copy rfl ⟨Nat.le_of_ble_eq_true rfl, Nat.le_of_ble_eq_true rfl⟩ (Nat.le_of_ble_eq_true rfl) ⟨Nat.le_refl _, Nat.le_refl _⟩ (fun b => b) ?_
      refine r_icmp_eq (pc := 1212) (tgt := 3270) dL_law_1212 rfl (fun c => ?_) (fun c => ?_)
      · have h := it h c
        refine r_iinc (pc := 3270) (v := (x3 + (7 : Int32))) (L' := [(3, vI (x3 + (7 : Int32))), (0, vR (some 3)), (1, vR x1), (2, vR x2)]) dL_law_3270 3 rfl (kc_inc_7 _) (by decide) rfl ?_
        refine r_goto (pc := 3273) (tgt := 18) dL_law_3273 rfl ?_
        refine r_sub [1, 2, 3, 0] rfl ?_
        exact hq18 _ _ _ _ _ _ _ _ h
      · have h := ie h c
        refine r_iconst (pc := 1215) dL_law_1215 kc_iconst_0 ?_
        cases h
  · have h := ie h c
    refine r_iconst (pc := 1177) dL_law_1177 kc_iconst_1 ?_
    refine r_goto (pc := 1178) (tgt := 1182) dL_law_1178 rfl ?_
    obtain ⟨a871, ha871, h⟩ := ob h
    refine r_ref3 ha871 ?_
    obtain ⟨g872, h⟩ := gd h
    obtain ⟨⟨σ873, I874, J875, R876, r877⟩, hc878, h⟩ := ob h
    obtain ⟨g879, h⟩ := gd h
    refine r_callV1 (pc := 1182) (av := [vI (xs (Int32.toNatClampNeg (x3 + (1 : Int32)))), vI (xs (Int32.toNatClampNeg (x3 + (2 : Int32)))), vI (1 : Int32)]) (S := []) dL_law_1182 (kX11_copy hc878) g872 rfl mkL_90 mwX11_copy rfl ⟨Nat.le_of_ble_eq_true rfl, Nat.le_of_ble_eq_true rfl⟩ (Nat.le_of_ble_eq_true rfl) (mX11_copy hc878) (bdL (mX11_copy hc878) g879) ?_
    refine r_aload_n (pc := 1185) dL_law_1185 rfl 2 rfl ?_
    refine r_aload_n (pc := 1186) dL_law_1186 rfl 0 rfl ?_
    refine r_iload_n (pc := 1187) dL_law_1187 rfl 3 rfl ?_
    refine r_iconst (pc := 1188) dL_law_1188 kc_iconst_1 ?_
    refine r_iadd (pc := 1189) dL_law_1189 ?_
    refine r_scld (pc := 1190) dL_law_1190 g845 ?_
    refine r_aload_n (pc := 1191) dL_law_1191 rfl 0 rfl ?_
    refine r_iload_n (pc := 1192) dL_law_1192 rfl 3 rfl ?_
    refine r_iconst (pc := 1193) dL_law_1193 kc_iconst_2 ?_
    refine r_iadd (pc := 1194) dL_law_1194 ?_
    refine r_scld (pc := 1195) dL_law_1195 g846 ?_
    refine r_aload_n (pc := 1196) dL_law_1196 rfl 0 rfl ?_
    refine r_iload_n (pc := 1197) dL_law_1197 rfl 3 rfl ?_
    refine r_iconst (pc := 1198) dL_law_1198 kc_iconst_3 ?_
    refine r_iadd (pc := 1199) dL_law_1199 ?_
    refine r_scld (pc := 1200) dL_law_1200 g847 ?_
    refine r_if_eq (pc := 1201) (tgt := 1208) dL_law_1201 rfl (fun c => ?_) (fun c => ?_)
    · have h := it h c
      refine r_iconst (pc := 1208) dL_law_1208 kc_iconst_0 ?_
      obtain ⟨a880, ha880, h⟩ := ob h
      refine r_ref3 ha880 ?_
      obtain ⟨g881, h⟩ := gd h
      obtain ⟨⟨I882, J883, r884⟩, hc885, h⟩ := ob h
      refine r_callV1 (pc := 1209) (av := [vI (xs (Int32.toNatClampNeg (x3 + (1 : Int32)))), vI (xs (Int32.toNatClampNeg (x3 + (2 : Int32)))), vI (0 : Int32)]) (S := [vI r877]) dL_law_1209 (kX12_copy hc885) g881 rfl mkL_94 mwX12_copy rfl ⟨Nat.le_of_ble_eq_true rfl, Nat.le_of_ble_eq_true rfl⟩ (Nat.le_of_ble_eq_true rfl) ⟨Nat.le_refl _, Nat.le_refl _⟩ (fun b => b) ?_
      refine r_icmp_eq (pc := 1212) (tgt := 3270) dL_law_1212 rfl (fun c => ?_) (fun c => ?_)
      · have h := it h c
        refine r_iinc (pc := 3270) (v := (x3 + (7 : Int32))) (L' := [(3, vI (x3 + (7 : Int32))), (0, vR (some 3)), (1, vR x1), (2, vR x2)]) dL_law_3270 3 rfl (kc_inc_7 _) (by decide) rfl ?_
        refine r_goto (pc := 3273) (tgt := 18) dL_law_3273 rfl ?_
        refine r_sub [1, 2, 3, 0] rfl ?_
        exact hq18 _ _ _ _ _ _ _ _ h
      · have h := ie h c
        refine r_iconst (pc := 1215) dL_law_1215 kc_iconst_0 ?_
        cases h
    · have h := ie h c
      refine r_iconst (pc := 1204) dL_law_1204 kc_iconst_1 ?_
      refine r_goto (pc := 1205) (tgt := 1209) dL_law_1205 rfl ?_
      obtain ⟨a887, ha887, h⟩ := ob h
      refine r_ref3 ha887 ?_
      obtain ⟨g888, h⟩ := gd h
      obtain ⟨⟨I889, J890, r891⟩, hc892, h⟩ := ob h
      refine r_callV1 (pc := 1209) (av := [vI (xs (Int32.toNatClampNeg (x3 + (1 : Int32)))), vI (xs (Int32.toNatClampNeg (x3 + (2 : Int32)))), vI (1 : Int32)]) (S := [vI r877]) dL_law_1209 (kX12_copy hc892) g888 rfl mkL_94 mwX12_copy rfl ⟨Nat.le_of_ble_eq_true rfl, Nat.le_of_ble_eq_true rfl⟩ (Nat.le_of_ble_eq_true rfl) ⟨Nat.le_refl _, Nat.le_refl _⟩ (fun b => b) ?_
      refine r_icmp_eq (pc := 1212) (tgt := 3270) dL_law_1212 rfl (fun c => ?_) (fun c => ?_)
      · have h := it h c
        refine r_iinc (pc := 3270) (v := (x3 + (7 : Int32))) (L' := [(3, vI (x3 + (7 : Int32))), (0, vR (some 3)), (1, vR x1), (2, vR x2)]) dL_law_3270 3 rfl (kc_inc_7 _) (by decide) rfl ?_
        refine r_goto (pc := 3273) (tgt := 18) dL_law_3273 rfl ?_
        refine r_sub [1, 2, 3, 0] rfl ?_
        exact hq18 _ _ _ _ _ _ _ _ h
      · have h := ie h c
        refine r_iconst (pc := 1215) dL_law_1215 kc_iconst_0 ?_
        cases h
def fL_law_b1145 (q18 : (Shp) → (Nat → Nat → Int32) → (Nat → Nat → Int64) → (Nat → Nat → UInt64) → (Nat → Nat → Option Nat) → (Option Nat) → (Option Nat) → (Int32) → (Option (Unit))) (xs : Nat → Int32) (Lg : Nat) (σ : Shp) (I : Nat → Nat → Int32) (J : Nat → Nat → Int64) (D : Nat → Nat → UInt64) (R : Nat → Nat → Option Nat) (x1 : Option Nat) (x2 : Option Nat) (x3 : Int32) : Option Unit :=
  (x1 : Option Nat).bind fun a894 =>
  if kdx σ a894 = 12 then
  (fX11_came σ I a894).bind fun r896 =>
  (x2 : Option Nat).bind fun a898 =>
  if kdx σ a898 = 13 then
  (fX12_came σ I a898).bind fun r900 =>
  if r896 = r900 then
    let v902 := x3 + (7 : Int32)
    q18 σ I J D R x1 x2 v902
  else
    none
  else none
  else none
set_option maxHeartbeats 8000000 in
set_option maxRecDepth 100000 in
theorem wL_law_b1145 {G : Gx} {l : Launch} {xs : Nat → Int32} {Lg : Nat} {σ0 : Shp} {σ : Shp} {I : Nat → Nat → Int32} {J : Nat → Nat → Int64} {D : Nat → Nat → UInt64} {R : Nat → Nat → Option Nat} {q18 : (Shp) → (Nat → Nat → Int32) → (Nat → Nat → Int64) → (Nat → Nat → UInt64) → (Nat → Nat → Option Nat) → (Option Nat) → (Option Nat) → (Int32) → (Option (Unit))} {x1 : Option Nat} {x2 : Option Nat} {x3 : Int32} (hq18 : ∀ (σ : Shp) (I : Nat → Nat → Int32) (J : Nat → Nat → Int64) (D : Nat → Nat → UInt64) (R : Nat → Nat → Option Nat) (x1 : Option Nat) (x2 : Option Nat) (x3 : Int32), q18 σ I J D R x1 x2 x3 = some () → WLaw G l xs Lg σ0 (σ, I, J, D, R) 18 [(0, vR (some 3)), (1, vR x1), (2, vR x2), (3, vI x3)] []) (h : fL_law_b1145 q18 xs Lg σ I J D R x1 x2 x3 = some ()) : WLaw G l xs Lg σ0 (σ, I, J, D, R) 1145 [(0, vR (some 3)), (1, vR x1), (2, vR x2), (3, vI x3)] [] := by
  unfold fL_law_b1145 at h
  refine r_aload_n (pc := 1145) dL_law_1145 rfl 1 rfl ?_
  obtain ⟨a894, ha894, h⟩ := ob h
  refine r_ref0 ha894 ?_
  obtain ⟨g895, h⟩ := gd h
  obtain ⟨r896, hc897, h⟩ := ob h
  refine r_callV1 (pc := 1146) (av := []) (S := []) dL_law_1146 (kX11_came hc897) g895 rfl mkL_85 mwX11_came rfl ⟨Nat.le_of_ble_eq_true rfl, Nat.le_of_ble_eq_true rfl⟩ (Nat.le_of_ble_eq_true rfl) ⟨Nat.le_refl _, Nat.le_refl _⟩ (fun b => b) ?_
  refine r_aload_n (pc := 1149) dL_law_1149 rfl 2 rfl ?_
  obtain ⟨a898, ha898, h⟩ := ob h
  refine r_ref0 ha898 ?_
  obtain ⟨g899, h⟩ := gd h
  obtain ⟨r900, hc901, h⟩ := ob h
  refine r_callV1 (pc := 1150) (av := []) (S := [vI r896]) dL_law_1150 (kX12_came hc901) g899 rfl mkL_89 mwX12_came rfl ⟨Nat.le_of_ble_eq_true rfl, Nat.le_of_ble_eq_true rfl⟩ (Nat.le_of_ble_eq_true rfl) ⟨Nat.le_refl _, Nat.le_refl _⟩ (fun b => b) ?_
  refine r_icmp_eq (pc := 1153) (tgt := 3270) dL_law_1153 rfl (fun c => ?_) (fun c => ?_)
  · have h := it h c
    refine r_iinc (pc := 3270) (v := (x3 + (7 : Int32))) (L' := [(3, vI (x3 + (7 : Int32))), (0, vR (some 3)), (1, vR x1), (2, vR x2)]) dL_law_3270 3 rfl (kc_inc_7 _) (by decide) rfl ?_
    refine r_goto (pc := 3273) (tgt := 18) dL_law_3273 rfl ?_
    refine r_sub [1, 2, 3, 0] rfl ?_
    exact hq18 _ _ _ _ _ _ _ _ h
  · have h := ie h c
    refine r_iconst (pc := 1156) dL_law_1156 kc_iconst_0 ?_
    cases h
def fL_law_b1082 (q18 : (Shp) → (Nat → Nat → Int32) → (Nat → Nat → Int64) → (Nat → Nat → UInt64) → (Nat → Nat → Option Nat) → (Option Nat) → (Option Nat) → (Int32) → (Option (Unit))) (xs : Nat → Int32) (Lg : Nat) (σ : Shp) (I : Nat → Nat → Int32) (J : Nat → Nat → Int64) (D : Nat → Nat → UInt64) (R : Nat → Nat → Option Nat) (x1 : Option Nat) (x2 : Option Nat) (x3 : Int32) : Option Unit :=
  if ¬ ((x3 + (1 : Int32)) < 0 ∨ Lg ≤ Int32.toNatClampNeg (x3 + (1 : Int32))) then
  if ¬ ((x3 + (2 : Int32)) < 0 ∨ Lg ≤ Int32.toNatClampNeg (x3 + (2 : Int32))) then
  if ¬ ((x3 + (3 : Int32)) < 0 ∨ Lg ≤ Int32.toNatClampNeg (x3 + (3 : Int32))) then
  if ¬ ((x3 + (4 : Int32)) < 0 ∨ Lg ≤ Int32.toNatClampNeg (x3 + (4 : Int32))) then
  if ¬ ((x3 + (5 : Int32)) < 0 ∨ Lg ≤ Int32.toNatClampNeg (x3 + (5 : Int32))) then
  (x1 : Option Nat).bind fun a908 =>
  if kdx σ a908 = 12 then
  (fX11_shift σ I J R a908 (xs (Int32.toNatClampNeg (x3 + (1 : Int32)))) (xs (Int32.toNatClampNeg (x3 + (2 : Int32)))) (xs (Int32.toNatClampNeg (x3 + (3 : Int32)))) (xs (Int32.toNatClampNeg (x3 + (4 : Int32)))) (xs (Int32.toNatClampNeg (x3 + (5 : Int32))))).bind fun (I910, J911, R912, r913) =>
  (x2 : Option Nat).bind fun a915 =>
  if kdx σ a915 = 13 then
  (fX12_shift σ I910 J911 R912 a915 (xs (Int32.toNatClampNeg (x3 + (1 : Int32)))) (xs (Int32.toNatClampNeg (x3 + (2 : Int32)))) (xs (Int32.toNatClampNeg (x3 + (3 : Int32)))) (xs (Int32.toNatClampNeg (x3 + (4 : Int32)))) (xs (Int32.toNatClampNeg (x3 + (5 : Int32))))).bind fun (I917, J918, r919) =>
  if r913 = r919 then
    let v921 := x3 + (7 : Int32)
    q18 σ I917 J918 D R912 x1 x2 v921
  else
    none
  else none
  else none
  else none
  else none
  else none
  else none
  else none
set_option maxHeartbeats 8000000 in
set_option maxRecDepth 100000 in
theorem wL_law_b1082 {G : Gx} {l : Launch} {xs : Nat → Int32} {Lg : Nat} {σ0 : Shp} {σ : Shp} {I : Nat → Nat → Int32} {J : Nat → Nat → Int64} {D : Nat → Nat → UInt64} {R : Nat → Nat → Option Nat} {q18 : (Shp) → (Nat → Nat → Int32) → (Nat → Nat → Int64) → (Nat → Nat → UInt64) → (Nat → Nat → Option Nat) → (Option Nat) → (Option Nat) → (Int32) → (Option (Unit))} {x1 : Option Nat} {x2 : Option Nat} {x3 : Int32} (hq18 : ∀ (σ : Shp) (I : Nat → Nat → Int32) (J : Nat → Nat → Int64) (D : Nat → Nat → UInt64) (R : Nat → Nat → Option Nat) (x1 : Option Nat) (x2 : Option Nat) (x3 : Int32), q18 σ I J D R x1 x2 x3 = some () → WLaw G l xs Lg σ0 (σ, I, J, D, R) 18 [(0, vR (some 3)), (1, vR x1), (2, vR x2), (3, vI x3)] []) (h : fL_law_b1082 q18 xs Lg σ I J D R x1 x2 x3 = some ()) : WLaw G l xs Lg σ0 (σ, I, J, D, R) 1082 [(0, vR (some 3)), (1, vR x1), (2, vR x2), (3, vI x3)] [] := by
  unfold fL_law_b1082 at h
  refine r_aload_n (pc := 1082) dL_law_1082 rfl 1 rfl ?_
  refine r_aload_n (pc := 1083) dL_law_1083 rfl 0 rfl ?_
  refine r_iload_n (pc := 1084) dL_law_1084 rfl 3 rfl ?_
  refine r_iconst (pc := 1085) dL_law_1085 kc_iconst_1 ?_
  refine r_iadd (pc := 1086) dL_law_1086 ?_
  obtain ⟨g903, h⟩ := gd h
  refine r_scld (pc := 1087) dL_law_1087 g903 ?_
  refine r_aload_n (pc := 1088) dL_law_1088 rfl 0 rfl ?_
  refine r_iload_n (pc := 1089) dL_law_1089 rfl 3 rfl ?_
  refine r_iconst (pc := 1090) dL_law_1090 kc_iconst_2 ?_
  refine r_iadd (pc := 1091) dL_law_1091 ?_
  obtain ⟨g904, h⟩ := gd h
  refine r_scld (pc := 1092) dL_law_1092 g904 ?_
  refine r_aload_n (pc := 1093) dL_law_1093 rfl 0 rfl ?_
  refine r_iload_n (pc := 1094) dL_law_1094 rfl 3 rfl ?_
  refine r_iconst (pc := 1095) dL_law_1095 kc_iconst_3 ?_
  refine r_iadd (pc := 1096) dL_law_1096 ?_
  obtain ⟨g905, h⟩ := gd h
  refine r_scld (pc := 1097) dL_law_1097 g905 ?_
  refine r_aload_n (pc := 1098) dL_law_1098 rfl 0 rfl ?_
  refine r_iload_n (pc := 1099) dL_law_1099 rfl 3 rfl ?_
  refine r_iconst (pc := 1100) dL_law_1100 kc_iconst_4 ?_
  refine r_iadd (pc := 1101) dL_law_1101 ?_
  obtain ⟨g906, h⟩ := gd h
  refine r_scld (pc := 1102) dL_law_1102 g906 ?_
  refine r_aload_n (pc := 1103) dL_law_1103 rfl 0 rfl ?_
  refine r_iload_n (pc := 1104) dL_law_1104 rfl 3 rfl ?_
  refine r_iconst (pc := 1105) dL_law_1105 kc_iconst_5 ?_
  refine r_iadd (pc := 1106) dL_law_1106 ?_
  obtain ⟨g907, h⟩ := gd h
  refine r_scld (pc := 1107) dL_law_1107 g907 ?_
  obtain ⟨a908, ha908, h⟩ := ob h
  refine r_ref5 ha908 ?_
  obtain ⟨g909, h⟩ := gd h
  obtain ⟨⟨I910, J911, R912, r913⟩, hc914, h⟩ := ob h
  refine r_callV1 (pc := 1108) (av := [vI (xs (Int32.toNatClampNeg (x3 + (1 : Int32)))), vI (xs (Int32.toNatClampNeg (x3 + (2 : Int32)))), vI (xs (Int32.toNatClampNeg (x3 + (3 : Int32)))), vI (xs (Int32.toNatClampNeg (x3 + (4 : Int32)))), vI (xs (Int32.toNatClampNeg (x3 + (5 : Int32))))]) (S := []) dL_law_1108 (kX11_shift hc914) g909 rfl mkL_80 mwX11_shift rfl ⟨Nat.le_of_ble_eq_true rfl, Nat.le_of_ble_eq_true rfl⟩ (Nat.le_of_ble_eq_true rfl) ⟨Nat.le_refl _, Nat.le_refl _⟩ (fun b => b) ?_
  refine r_aload_n (pc := 1111) dL_law_1111 rfl 2 rfl ?_
  refine r_aload_n (pc := 1112) dL_law_1112 rfl 0 rfl ?_
  refine r_iload_n (pc := 1113) dL_law_1113 rfl 3 rfl ?_
  refine r_iconst (pc := 1114) dL_law_1114 kc_iconst_1 ?_
  refine r_iadd (pc := 1115) dL_law_1115 ?_
  refine r_scld (pc := 1116) dL_law_1116 g903 ?_
  refine r_aload_n (pc := 1117) dL_law_1117 rfl 0 rfl ?_
  refine r_iload_n (pc := 1118) dL_law_1118 rfl 3 rfl ?_
  refine r_iconst (pc := 1119) dL_law_1119 kc_iconst_2 ?_
  refine r_iadd (pc := 1120) dL_law_1120 ?_
  refine r_scld (pc := 1121) dL_law_1121 g904 ?_
  refine r_aload_n (pc := 1122) dL_law_1122 rfl 0 rfl ?_
  refine r_iload_n (pc := 1123) dL_law_1123 rfl 3 rfl ?_
  refine r_iconst (pc := 1124) dL_law_1124 kc_iconst_3 ?_
  refine r_iadd (pc := 1125) dL_law_1125 ?_
  refine r_scld (pc := 1126) dL_law_1126 g905 ?_
  refine r_aload_n (pc := 1127) dL_law_1127 rfl 0 rfl ?_
  refine r_iload_n (pc := 1128) dL_law_1128 rfl 3 rfl ?_
  refine r_iconst (pc := 1129) dL_law_1129 kc_iconst_4 ?_
  refine r_iadd (pc := 1130) dL_law_1130 ?_
  refine r_scld (pc := 1131) dL_law_1131 g906 ?_
  refine r_aload_n (pc := 1132) dL_law_1132 rfl 0 rfl ?_
  refine r_iload_n (pc := 1133) dL_law_1133 rfl 3 rfl ?_
  refine r_iconst (pc := 1134) dL_law_1134 kc_iconst_5 ?_
  refine r_iadd (pc := 1135) dL_law_1135 ?_
  refine r_scld (pc := 1136) dL_law_1136 g907 ?_
  obtain ⟨a915, ha915, h⟩ := ob h
  refine r_ref5 ha915 ?_
  obtain ⟨g916, h⟩ := gd h
  obtain ⟨⟨I917, J918, r919⟩, hc920, h⟩ := ob h
  refine r_callV1 (pc := 1137) (av := [vI (xs (Int32.toNatClampNeg (x3 + (1 : Int32)))), vI (xs (Int32.toNatClampNeg (x3 + (2 : Int32)))), vI (xs (Int32.toNatClampNeg (x3 + (3 : Int32)))), vI (xs (Int32.toNatClampNeg (x3 + (4 : Int32)))), vI (xs (Int32.toNatClampNeg (x3 + (5 : Int32))))]) (S := [vI r913]) dL_law_1137 (kX12_shift hc920) g916 rfl mkL_84 mwX12_shift rfl ⟨Nat.le_of_ble_eq_true rfl, Nat.le_of_ble_eq_true rfl⟩ (Nat.le_of_ble_eq_true rfl) ⟨Nat.le_refl _, Nat.le_refl _⟩ (fun b => b) ?_
  refine r_icmp_eq (pc := 1140) (tgt := 3270) dL_law_1140 rfl (fun c => ?_) (fun c => ?_)
  · have h := it h c
    refine r_iinc (pc := 3270) (v := (x3 + (7 : Int32))) (L' := [(3, vI (x3 + (7 : Int32))), (0, vR (some 3)), (1, vR x1), (2, vR x2)]) dL_law_3270 3 rfl (kc_inc_7 _) (by decide) rfl ?_
    refine r_goto (pc := 3273) (tgt := 18) dL_law_3273 rfl ?_
    refine r_sub [1, 2, 3, 0] rfl ?_
    exact hq18 _ _ _ _ _ _ _ _ h
  · have h := ie h c
    refine r_iconst (pc := 1143) dL_law_1143 kc_iconst_0 ?_
    cases h
def fL_law_b1029 (q18 : (Shp) → (Nat → Nat → Int32) → (Nat → Nat → Int64) → (Nat → Nat → UInt64) → (Nat → Nat → Option Nat) → (Option Nat) → (Option Nat) → (Int32) → (Option (Unit))) (xs : Nat → Int32) (Lg : Nat) (σ : Shp) (I : Nat → Nat → Int32) (J : Nat → Nat → Int64) (D : Nat → Nat → UInt64) (R : Nat → Nat → Option Nat) (x1 : Option Nat) (x2 : Option Nat) (x3 : Int32) : Option Unit :=
  if ¬ ((x3 + (1 : Int32)) < 0 ∨ Lg ≤ Int32.toNatClampNeg (x3 + (1 : Int32))) then
  if ¬ ((x3 + (2 : Int32)) < 0 ∨ Lg ≤ Int32.toNatClampNeg (x3 + (2 : Int32))) then
  if ¬ ((x3 + (3 : Int32)) < 0 ∨ Lg ≤ Int32.toNatClampNeg (x3 + (3 : Int32))) then
  if ¬ ((x3 + (4 : Int32)) < 0 ∨ Lg ≤ Int32.toNatClampNeg (x3 + (4 : Int32))) then
  (x1 : Option Nat).bind fun a926 =>
  if kdx σ a926 = 12 then
  (fX11_liftAs σ I R a926 (xs (Int32.toNatClampNeg (x3 + (1 : Int32)))) (xs (Int32.toNatClampNeg (x3 + (2 : Int32)))) (xs (Int32.toNatClampNeg (x3 + (3 : Int32)))) (xs (Int32.toNatClampNeg (x3 + (4 : Int32))))).bind fun (I928, R929, r930) =>
  (x2 : Option Nat).bind fun a932 =>
  if kdx σ a932 = 13 then
  (fX12_liftAs σ I928 R929 a932 (xs (Int32.toNatClampNeg (x3 + (1 : Int32)))) (xs (Int32.toNatClampNeg (x3 + (2 : Int32)))) (xs (Int32.toNatClampNeg (x3 + (3 : Int32)))) (xs (Int32.toNatClampNeg (x3 + (4 : Int32))))).bind fun (I934, r935) =>
  if r930 = r935 then
    let v937 := x3 + (7 : Int32)
    q18 σ I934 J D R929 x1 x2 v937
  else
    none
  else none
  else none
  else none
  else none
  else none
  else none
set_option maxHeartbeats 8000000 in
set_option maxRecDepth 100000 in
theorem wL_law_b1029 {G : Gx} {l : Launch} {xs : Nat → Int32} {Lg : Nat} {σ0 : Shp} {σ : Shp} {I : Nat → Nat → Int32} {J : Nat → Nat → Int64} {D : Nat → Nat → UInt64} {R : Nat → Nat → Option Nat} {q18 : (Shp) → (Nat → Nat → Int32) → (Nat → Nat → Int64) → (Nat → Nat → UInt64) → (Nat → Nat → Option Nat) → (Option Nat) → (Option Nat) → (Int32) → (Option (Unit))} {x1 : Option Nat} {x2 : Option Nat} {x3 : Int32} (hq18 : ∀ (σ : Shp) (I : Nat → Nat → Int32) (J : Nat → Nat → Int64) (D : Nat → Nat → UInt64) (R : Nat → Nat → Option Nat) (x1 : Option Nat) (x2 : Option Nat) (x3 : Int32), q18 σ I J D R x1 x2 x3 = some () → WLaw G l xs Lg σ0 (σ, I, J, D, R) 18 [(0, vR (some 3)), (1, vR x1), (2, vR x2), (3, vI x3)] []) (h : fL_law_b1029 q18 xs Lg σ I J D R x1 x2 x3 = some ()) : WLaw G l xs Lg σ0 (σ, I, J, D, R) 1029 [(0, vR (some 3)), (1, vR x1), (2, vR x2), (3, vI x3)] [] := by
  unfold fL_law_b1029 at h
  refine r_aload_n (pc := 1029) dL_law_1029 rfl 1 rfl ?_
  refine r_aload_n (pc := 1030) dL_law_1030 rfl 0 rfl ?_
  refine r_iload_n (pc := 1031) dL_law_1031 rfl 3 rfl ?_
  refine r_iconst (pc := 1032) dL_law_1032 kc_iconst_1 ?_
  refine r_iadd (pc := 1033) dL_law_1033 ?_
  obtain ⟨g922, h⟩ := gd h
  refine r_scld (pc := 1034) dL_law_1034 g922 ?_
  refine r_aload_n (pc := 1035) dL_law_1035 rfl 0 rfl ?_
  refine r_iload_n (pc := 1036) dL_law_1036 rfl 3 rfl ?_
  refine r_iconst (pc := 1037) dL_law_1037 kc_iconst_2 ?_
  refine r_iadd (pc := 1038) dL_law_1038 ?_
  obtain ⟨g923, h⟩ := gd h
  refine r_scld (pc := 1039) dL_law_1039 g923 ?_
  refine r_aload_n (pc := 1040) dL_law_1040 rfl 0 rfl ?_
  refine r_iload_n (pc := 1041) dL_law_1041 rfl 3 rfl ?_
  refine r_iconst (pc := 1042) dL_law_1042 kc_iconst_3 ?_
  refine r_iadd (pc := 1043) dL_law_1043 ?_
  obtain ⟨g924, h⟩ := gd h
  refine r_scld (pc := 1044) dL_law_1044 g924 ?_
  refine r_aload_n (pc := 1045) dL_law_1045 rfl 0 rfl ?_
  refine r_iload_n (pc := 1046) dL_law_1046 rfl 3 rfl ?_
  refine r_iconst (pc := 1047) dL_law_1047 kc_iconst_4 ?_
  refine r_iadd (pc := 1048) dL_law_1048 ?_
  obtain ⟨g925, h⟩ := gd h
  refine r_scld (pc := 1049) dL_law_1049 g925 ?_
  obtain ⟨a926, ha926, h⟩ := ob h
  refine r_ref4 ha926 ?_
  obtain ⟨g927, h⟩ := gd h
  obtain ⟨⟨I928, R929, r930⟩, hc931, h⟩ := ob h
  refine r_callV1 (pc := 1050) (av := [vI (xs (Int32.toNatClampNeg (x3 + (1 : Int32)))), vI (xs (Int32.toNatClampNeg (x3 + (2 : Int32)))), vI (xs (Int32.toNatClampNeg (x3 + (3 : Int32)))), vI (xs (Int32.toNatClampNeg (x3 + (4 : Int32))))]) (S := []) dL_law_1050 (kX11_liftAs hc931) g927 rfl mkL_75 mwX11_liftAs rfl ⟨Nat.le_of_ble_eq_true rfl, Nat.le_of_ble_eq_true rfl⟩ (Nat.le_of_ble_eq_true rfl) ⟨Nat.le_refl _, Nat.le_refl _⟩ (fun b => b) ?_
  refine r_aload_n (pc := 1053) dL_law_1053 rfl 2 rfl ?_
  refine r_aload_n (pc := 1054) dL_law_1054 rfl 0 rfl ?_
  refine r_iload_n (pc := 1055) dL_law_1055 rfl 3 rfl ?_
  refine r_iconst (pc := 1056) dL_law_1056 kc_iconst_1 ?_
  refine r_iadd (pc := 1057) dL_law_1057 ?_
  refine r_scld (pc := 1058) dL_law_1058 g922 ?_
  refine r_aload_n (pc := 1059) dL_law_1059 rfl 0 rfl ?_
  refine r_iload_n (pc := 1060) dL_law_1060 rfl 3 rfl ?_
  refine r_iconst (pc := 1061) dL_law_1061 kc_iconst_2 ?_
  refine r_iadd (pc := 1062) dL_law_1062 ?_
  refine r_scld (pc := 1063) dL_law_1063 g923 ?_
  refine r_aload_n (pc := 1064) dL_law_1064 rfl 0 rfl ?_
  refine r_iload_n (pc := 1065) dL_law_1065 rfl 3 rfl ?_
  refine r_iconst (pc := 1066) dL_law_1066 kc_iconst_3 ?_
  refine r_iadd (pc := 1067) dL_law_1067 ?_
  refine r_scld (pc := 1068) dL_law_1068 g924 ?_
  refine r_aload_n (pc := 1069) dL_law_1069 rfl 0 rfl ?_
  refine r_iload_n (pc := 1070) dL_law_1070 rfl 3 rfl ?_
  refine r_iconst (pc := 1071) dL_law_1071 kc_iconst_4 ?_
  refine r_iadd (pc := 1072) dL_law_1072 ?_
  refine r_scld (pc := 1073) dL_law_1073 g925 ?_
  obtain ⟨a932, ha932, h⟩ := ob h
  refine r_ref4 ha932 ?_
  obtain ⟨g933, h⟩ := gd h
  obtain ⟨⟨I934, r935⟩, hc936, h⟩ := ob h
  refine r_callV1 (pc := 1074) (av := [vI (xs (Int32.toNatClampNeg (x3 + (1 : Int32)))), vI (xs (Int32.toNatClampNeg (x3 + (2 : Int32)))), vI (xs (Int32.toNatClampNeg (x3 + (3 : Int32)))), vI (xs (Int32.toNatClampNeg (x3 + (4 : Int32))))]) (S := [vI r930]) dL_law_1074 (kX12_liftAs hc936) g933 rfl mkL_79 mwX12_liftAs rfl ⟨Nat.le_of_ble_eq_true rfl, Nat.le_of_ble_eq_true rfl⟩ (Nat.le_of_ble_eq_true rfl) ⟨Nat.le_refl _, Nat.le_refl _⟩ (fun b => b) ?_
  refine r_icmp_eq (pc := 1077) (tgt := 3270) dL_law_1077 rfl (fun c => ?_) (fun c => ?_)
  · have h := it h c
    refine r_iinc (pc := 3270) (v := (x3 + (7 : Int32))) (L' := [(3, vI (x3 + (7 : Int32))), (0, vR (some 3)), (1, vR x1), (2, vR x2)]) dL_law_3270 3 rfl (kc_inc_7 _) (by decide) rfl ?_
    refine r_goto (pc := 3273) (tgt := 18) dL_law_3273 rfl ?_
    refine r_sub [1, 2, 3, 0] rfl ?_
    exact hq18 _ _ _ _ _ _ _ _ h
  · have h := ie h c
    refine r_iconst (pc := 1080) dL_law_1080 kc_iconst_0 ?_
    cases h
def fL_law_b986 (q18 : (Shp) → (Nat → Nat → Int32) → (Nat → Nat → Int64) → (Nat → Nat → UInt64) → (Nat → Nat → Option Nat) → (Option Nat) → (Option Nat) → (Int32) → (Option (Unit))) (xs : Nat → Int32) (Lg : Nat) (σ : Shp) (I : Nat → Nat → Int32) (J : Nat → Nat → Int64) (D : Nat → Nat → UInt64) (R : Nat → Nat → Option Nat) (x1 : Option Nat) (x2 : Option Nat) (x3 : Int32) : Option Unit :=
  if ¬ ((x3 + (1 : Int32)) < 0 ∨ Lg ≤ Int32.toNatClampNeg (x3 + (1 : Int32))) then
  if ¬ ((x3 + (2 : Int32)) < 0 ∨ Lg ≤ Int32.toNatClampNeg (x3 + (2 : Int32))) then
  if ¬ ((x3 + (3 : Int32)) < 0 ∨ Lg ≤ Int32.toNatClampNeg (x3 + (3 : Int32))) then
  (x1 : Option Nat).bind fun a941 =>
  if kdx σ a941 = 12 then
  (fX11_lift σ I R a941 (xs (Int32.toNatClampNeg (x3 + (1 : Int32)))) (xs (Int32.toNatClampNeg (x3 + (2 : Int32)))) (xs (Int32.toNatClampNeg (x3 + (3 : Int32))))).bind fun (I943, R944, r945) =>
  (x2 : Option Nat).bind fun a947 =>
  if kdx σ a947 = 13 then
  (fX12_lift σ I943 R944 a947 (xs (Int32.toNatClampNeg (x3 + (1 : Int32)))) (xs (Int32.toNatClampNeg (x3 + (2 : Int32)))) (xs (Int32.toNatClampNeg (x3 + (3 : Int32))))).bind fun (I949, r950) =>
  if r945 = r950 then
    let v952 := x3 + (7 : Int32)
    q18 σ I949 J D R944 x1 x2 v952
  else
    none
  else none
  else none
  else none
  else none
  else none
set_option maxHeartbeats 8000000 in
set_option maxRecDepth 100000 in
theorem wL_law_b986 {G : Gx} {l : Launch} {xs : Nat → Int32} {Lg : Nat} {σ0 : Shp} {σ : Shp} {I : Nat → Nat → Int32} {J : Nat → Nat → Int64} {D : Nat → Nat → UInt64} {R : Nat → Nat → Option Nat} {q18 : (Shp) → (Nat → Nat → Int32) → (Nat → Nat → Int64) → (Nat → Nat → UInt64) → (Nat → Nat → Option Nat) → (Option Nat) → (Option Nat) → (Int32) → (Option (Unit))} {x1 : Option Nat} {x2 : Option Nat} {x3 : Int32} (hq18 : ∀ (σ : Shp) (I : Nat → Nat → Int32) (J : Nat → Nat → Int64) (D : Nat → Nat → UInt64) (R : Nat → Nat → Option Nat) (x1 : Option Nat) (x2 : Option Nat) (x3 : Int32), q18 σ I J D R x1 x2 x3 = some () → WLaw G l xs Lg σ0 (σ, I, J, D, R) 18 [(0, vR (some 3)), (1, vR x1), (2, vR x2), (3, vI x3)] []) (h : fL_law_b986 q18 xs Lg σ I J D R x1 x2 x3 = some ()) : WLaw G l xs Lg σ0 (σ, I, J, D, R) 986 [(0, vR (some 3)), (1, vR x1), (2, vR x2), (3, vI x3)] [] := by
  unfold fL_law_b986 at h
  refine r_aload_n (pc := 986) dL_law_986 rfl 1 rfl ?_
  refine r_aload_n (pc := 987) dL_law_987 rfl 0 rfl ?_
  refine r_iload_n (pc := 988) dL_law_988 rfl 3 rfl ?_
  refine r_iconst (pc := 989) dL_law_989 kc_iconst_1 ?_
  refine r_iadd (pc := 990) dL_law_990 ?_
  obtain ⟨g938, h⟩ := gd h
  refine r_scld (pc := 991) dL_law_991 g938 ?_
  refine r_aload_n (pc := 992) dL_law_992 rfl 0 rfl ?_
  refine r_iload_n (pc := 993) dL_law_993 rfl 3 rfl ?_
  refine r_iconst (pc := 994) dL_law_994 kc_iconst_2 ?_
  refine r_iadd (pc := 995) dL_law_995 ?_
  obtain ⟨g939, h⟩ := gd h
  refine r_scld (pc := 996) dL_law_996 g939 ?_
  refine r_aload_n (pc := 997) dL_law_997 rfl 0 rfl ?_
  refine r_iload_n (pc := 998) dL_law_998 rfl 3 rfl ?_
  refine r_iconst (pc := 999) dL_law_999 kc_iconst_3 ?_
  refine r_iadd (pc := 1000) dL_law_1000 ?_
  obtain ⟨g940, h⟩ := gd h
  refine r_scld (pc := 1001) dL_law_1001 g940 ?_
  obtain ⟨a941, ha941, h⟩ := ob h
  refine r_ref3 ha941 ?_
  obtain ⟨g942, h⟩ := gd h
  obtain ⟨⟨I943, R944, r945⟩, hc946, h⟩ := ob h
  refine r_callV1 (pc := 1002) (av := [vI (xs (Int32.toNatClampNeg (x3 + (1 : Int32)))), vI (xs (Int32.toNatClampNeg (x3 + (2 : Int32)))), vI (xs (Int32.toNatClampNeg (x3 + (3 : Int32))))]) (S := []) dL_law_1002 (kX11_lift hc946) g942 rfl mkL_71 mwX11_lift rfl ⟨Nat.le_of_ble_eq_true rfl, Nat.le_of_ble_eq_true rfl⟩ (Nat.le_of_ble_eq_true rfl) ⟨Nat.le_refl _, Nat.le_refl _⟩ (fun b => b) ?_
  refine r_aload_n (pc := 1005) dL_law_1005 rfl 2 rfl ?_
  refine r_aload_n (pc := 1006) dL_law_1006 rfl 0 rfl ?_
  refine r_iload_n (pc := 1007) dL_law_1007 rfl 3 rfl ?_
  refine r_iconst (pc := 1008) dL_law_1008 kc_iconst_1 ?_
  refine r_iadd (pc := 1009) dL_law_1009 ?_
  refine r_scld (pc := 1010) dL_law_1010 g938 ?_
  refine r_aload_n (pc := 1011) dL_law_1011 rfl 0 rfl ?_
  refine r_iload_n (pc := 1012) dL_law_1012 rfl 3 rfl ?_
  refine r_iconst (pc := 1013) dL_law_1013 kc_iconst_2 ?_
  refine r_iadd (pc := 1014) dL_law_1014 ?_
  refine r_scld (pc := 1015) dL_law_1015 g939 ?_
  refine r_aload_n (pc := 1016) dL_law_1016 rfl 0 rfl ?_
  refine r_iload_n (pc := 1017) dL_law_1017 rfl 3 rfl ?_
  refine r_iconst (pc := 1018) dL_law_1018 kc_iconst_3 ?_
  refine r_iadd (pc := 1019) dL_law_1019 ?_
  refine r_scld (pc := 1020) dL_law_1020 g940 ?_
  obtain ⟨a947, ha947, h⟩ := ob h
  refine r_ref3 ha947 ?_
  obtain ⟨g948, h⟩ := gd h
  obtain ⟨⟨I949, r950⟩, hc951, h⟩ := ob h
  refine r_callV1 (pc := 1021) (av := [vI (xs (Int32.toNatClampNeg (x3 + (1 : Int32)))), vI (xs (Int32.toNatClampNeg (x3 + (2 : Int32)))), vI (xs (Int32.toNatClampNeg (x3 + (3 : Int32))))]) (S := [vI r945]) dL_law_1021 (kX12_lift hc951) g948 rfl mkL_74 mwX12_lift rfl ⟨Nat.le_of_ble_eq_true rfl, Nat.le_of_ble_eq_true rfl⟩ (Nat.le_of_ble_eq_true rfl) ⟨Nat.le_refl _, Nat.le_refl _⟩ (fun b => b) ?_
  refine r_icmp_eq (pc := 1024) (tgt := 3270) dL_law_1024 rfl (fun c => ?_) (fun c => ?_)
  · have h := it h c
    refine r_iinc (pc := 3270) (v := (x3 + (7 : Int32))) (L' := [(3, vI (x3 + (7 : Int32))), (0, vR (some 3)), (1, vR x1), (2, vR x2)]) dL_law_3270 3 rfl (kc_inc_7 _) (by decide) rfl ?_
    refine r_goto (pc := 3273) (tgt := 18) dL_law_3273 rfl ?_
    refine r_sub [1, 2, 3, 0] rfl ?_
    exact hq18 _ _ _ _ _ _ _ _ h
  · have h := ie h c
    refine r_iconst (pc := 1027) dL_law_1027 kc_iconst_0 ?_
    cases h
def fL_law_b943 (q18 : (Shp) → (Nat → Nat → Int32) → (Nat → Nat → Int64) → (Nat → Nat → UInt64) → (Nat → Nat → Option Nat) → (Option Nat) → (Option Nat) → (Int32) → (Option (Unit))) (xs : Nat → Int32) (Lg : Nat) (σ : Shp) (I : Nat → Nat → Int32) (J : Nat → Nat → Int64) (D : Nat → Nat → UInt64) (R : Nat → Nat → Option Nat) (x1 : Option Nat) (x2 : Option Nat) (x3 : Int32) : Option Unit :=
  if ¬ ((x3 + (1 : Int32)) < 0 ∨ Lg ≤ Int32.toNatClampNeg (x3 + (1 : Int32))) then
  if ¬ ((x3 + (2 : Int32)) < 0 ∨ Lg ≤ Int32.toNatClampNeg (x3 + (2 : Int32))) then
  if ¬ ((x3 + (3 : Int32)) < 0 ∨ Lg ≤ Int32.toNatClampNeg (x3 + (3 : Int32))) then
  (x1 : Option Nat).bind fun a956 =>
  if kdx σ a956 = 12 then
  (fX11_set σ I R a956 (xs (Int32.toNatClampNeg (x3 + (1 : Int32)))) (xs (Int32.toNatClampNeg (x3 + (2 : Int32)))) (xs (Int32.toNatClampNeg (x3 + (3 : Int32))))).bind fun (I958, R959, r960) =>
  (x2 : Option Nat).bind fun a962 =>
  if kdx σ a962 = 13 then
  (fX12_set σ I958 R959 a962 (xs (Int32.toNatClampNeg (x3 + (1 : Int32)))) (xs (Int32.toNatClampNeg (x3 + (2 : Int32)))) (xs (Int32.toNatClampNeg (x3 + (3 : Int32))))).bind fun (I964, r965) =>
  if r960 = r965 then
    let v967 := x3 + (7 : Int32)
    q18 σ I964 J D R959 x1 x2 v967
  else
    none
  else none
  else none
  else none
  else none
  else none
set_option maxHeartbeats 8000000 in
set_option maxRecDepth 100000 in
theorem wL_law_b943 {G : Gx} {l : Launch} {xs : Nat → Int32} {Lg : Nat} {σ0 : Shp} {σ : Shp} {I : Nat → Nat → Int32} {J : Nat → Nat → Int64} {D : Nat → Nat → UInt64} {R : Nat → Nat → Option Nat} {q18 : (Shp) → (Nat → Nat → Int32) → (Nat → Nat → Int64) → (Nat → Nat → UInt64) → (Nat → Nat → Option Nat) → (Option Nat) → (Option Nat) → (Int32) → (Option (Unit))} {x1 : Option Nat} {x2 : Option Nat} {x3 : Int32} (hq18 : ∀ (σ : Shp) (I : Nat → Nat → Int32) (J : Nat → Nat → Int64) (D : Nat → Nat → UInt64) (R : Nat → Nat → Option Nat) (x1 : Option Nat) (x2 : Option Nat) (x3 : Int32), q18 σ I J D R x1 x2 x3 = some () → WLaw G l xs Lg σ0 (σ, I, J, D, R) 18 [(0, vR (some 3)), (1, vR x1), (2, vR x2), (3, vI x3)] []) (h : fL_law_b943 q18 xs Lg σ I J D R x1 x2 x3 = some ()) : WLaw G l xs Lg σ0 (σ, I, J, D, R) 943 [(0, vR (some 3)), (1, vR x1), (2, vR x2), (3, vI x3)] [] := by
  unfold fL_law_b943 at h
  refine r_aload_n (pc := 943) dL_law_943 rfl 1 rfl ?_
  refine r_aload_n (pc := 944) dL_law_944 rfl 0 rfl ?_
  refine r_iload_n (pc := 945) dL_law_945 rfl 3 rfl ?_
  refine r_iconst (pc := 946) dL_law_946 kc_iconst_1 ?_
  refine r_iadd (pc := 947) dL_law_947 ?_
  obtain ⟨g953, h⟩ := gd h
  refine r_scld (pc := 948) dL_law_948 g953 ?_
  refine r_aload_n (pc := 949) dL_law_949 rfl 0 rfl ?_
  refine r_iload_n (pc := 950) dL_law_950 rfl 3 rfl ?_
  refine r_iconst (pc := 951) dL_law_951 kc_iconst_2 ?_
  refine r_iadd (pc := 952) dL_law_952 ?_
  obtain ⟨g954, h⟩ := gd h
  refine r_scld (pc := 953) dL_law_953 g954 ?_
  refine r_aload_n (pc := 954) dL_law_954 rfl 0 rfl ?_
  refine r_iload_n (pc := 955) dL_law_955 rfl 3 rfl ?_
  refine r_iconst (pc := 956) dL_law_956 kc_iconst_3 ?_
  refine r_iadd (pc := 957) dL_law_957 ?_
  obtain ⟨g955, h⟩ := gd h
  refine r_scld (pc := 958) dL_law_958 g955 ?_
  obtain ⟨a956, ha956, h⟩ := ob h
  refine r_ref3 ha956 ?_
  obtain ⟨g957, h⟩ := gd h
  obtain ⟨⟨I958, R959, r960⟩, hc961, h⟩ := ob h
  refine r_callV1 (pc := 959) (av := [vI (xs (Int32.toNatClampNeg (x3 + (1 : Int32)))), vI (xs (Int32.toNatClampNeg (x3 + (2 : Int32)))), vI (xs (Int32.toNatClampNeg (x3 + (3 : Int32))))]) (S := []) dL_law_959 (kX11_set hc961) g957 rfl mkL_67 mwX11_set rfl ⟨Nat.le_of_ble_eq_true rfl, Nat.le_of_ble_eq_true rfl⟩ (Nat.le_of_ble_eq_true rfl) ⟨Nat.le_refl _, Nat.le_refl _⟩ (fun b => b) ?_
  refine r_aload_n (pc := 962) dL_law_962 rfl 2 rfl ?_
  refine r_aload_n (pc := 963) dL_law_963 rfl 0 rfl ?_
  refine r_iload_n (pc := 964) dL_law_964 rfl 3 rfl ?_
  refine r_iconst (pc := 965) dL_law_965 kc_iconst_1 ?_
  refine r_iadd (pc := 966) dL_law_966 ?_
  refine r_scld (pc := 967) dL_law_967 g953 ?_
  refine r_aload_n (pc := 968) dL_law_968 rfl 0 rfl ?_
  refine r_iload_n (pc := 969) dL_law_969 rfl 3 rfl ?_
  refine r_iconst (pc := 970) dL_law_970 kc_iconst_2 ?_
  refine r_iadd (pc := 971) dL_law_971 ?_
  refine r_scld (pc := 972) dL_law_972 g954 ?_
  refine r_aload_n (pc := 973) dL_law_973 rfl 0 rfl ?_
  refine r_iload_n (pc := 974) dL_law_974 rfl 3 rfl ?_
  refine r_iconst (pc := 975) dL_law_975 kc_iconst_3 ?_
  refine r_iadd (pc := 976) dL_law_976 ?_
  refine r_scld (pc := 977) dL_law_977 g955 ?_
  obtain ⟨a962, ha962, h⟩ := ob h
  refine r_ref3 ha962 ?_
  obtain ⟨g963, h⟩ := gd h
  obtain ⟨⟨I964, r965⟩, hc966, h⟩ := ob h
  refine r_callV1 (pc := 978) (av := [vI (xs (Int32.toNatClampNeg (x3 + (1 : Int32)))), vI (xs (Int32.toNatClampNeg (x3 + (2 : Int32)))), vI (xs (Int32.toNatClampNeg (x3 + (3 : Int32))))]) (S := [vI r960]) dL_law_978 (kX12_set hc966) g963 rfl mkL_70 mwX12_set rfl ⟨Nat.le_of_ble_eq_true rfl, Nat.le_of_ble_eq_true rfl⟩ (Nat.le_of_ble_eq_true rfl) ⟨Nat.le_refl _, Nat.le_refl _⟩ (fun b => b) ?_
  refine r_icmp_eq (pc := 981) (tgt := 3270) dL_law_981 rfl (fun c => ?_) (fun c => ?_)
  · have h := it h c
    refine r_iinc (pc := 3270) (v := (x3 + (7 : Int32))) (L' := [(3, vI (x3 + (7 : Int32))), (0, vR (some 3)), (1, vR x1), (2, vR x2)]) dL_law_3270 3 rfl (kc_inc_7 _) (by decide) rfl ?_
    refine r_goto (pc := 3273) (tgt := 18) dL_law_3273 rfl ?_
    refine r_sub [1, 2, 3, 0] rfl ?_
    exact hq18 _ _ _ _ _ _ _ _ h
  · have h := ie h c
    refine r_iconst (pc := 984) dL_law_984 kc_iconst_0 ?_
    cases h
def fL_law_b898 (q18 : (Shp) → (Nat → Nat → Int32) → (Nat → Nat → Int64) → (Nat → Nat → UInt64) → (Nat → Nat → Option Nat) → (Option Nat) → (Option Nat) → (Int32) → (Option (Unit))) (xs : Nat → Int32) (Lg : Nat) (σ : Shp) (I : Nat → Nat → Int32) (J : Nat → Nat → Int64) (D : Nat → Nat → UInt64) (R : Nat → Nat → Option Nat) (x1 : Option Nat) (x2 : Option Nat) (x3 : Int32) (s0 : Option Nat) (s1 : Int32) (s2 : Int32) (s3 : Int32) (s4 : Int32) (s5 : Int32) : Option Unit :=
  (s0 : Option Nat).bind fun a973 =>
  if kdx σ a973 = 12 then
  (fX11_countUp σ I J R a973 s1 s2 s3 s4 s5).bind fun (I975, J976, r977) =>
  if ¬ ((x3 + (1 : Int32)) < 0 ∨ Lg ≤ Int32.toNatClampNeg (x3 + (1 : Int32))) then
  if ¬ ((x3 + (2 : Int32)) < 0 ∨ Lg ≤ Int32.toNatClampNeg (x3 + (2 : Int32))) then
  if ¬ ((x3 + (3 : Int32)) < 0 ∨ Lg ≤ Int32.toNatClampNeg (x3 + (3 : Int32))) then
  if ¬ ((x3 + (4 : Int32)) < 0 ∨ Lg ≤ Int32.toNatClampNeg (x3 + (4 : Int32))) then
  if ¬ ((x3 + (5 : Int32)) < 0 ∨ Lg ≤ Int32.toNatClampNeg (x3 + (5 : Int32))) then
  if (xs (Int32.toNatClampNeg (x3 + (5 : Int32)))) = 0 then
    (x2 : Option Nat).bind fun a984 =>
    if kdx σ a984 = 13 then
    (fX12_countUp σ I975 J976 R a984 (xs (Int32.toNatClampNeg (x3 + (1 : Int32)))) (xs (Int32.toNatClampNeg (x3 + (2 : Int32)))) (xs (Int32.toNatClampNeg (x3 + (3 : Int32)))) (xs (Int32.toNatClampNeg (x3 + (4 : Int32)))) (0 : Int32)).bind fun (I986, J987, r988) =>
    if r977 = r988 then
      let v990 := x3 + (7 : Int32)
      q18 σ I986 J987 D R x1 x2 v990
    else
      none
    else none
  else
    (x2 : Option Nat).bind fun a991 =>
    if kdx σ a991 = 13 then
    (fX12_countUp σ I975 J976 R a991 (xs (Int32.toNatClampNeg (x3 + (1 : Int32)))) (xs (Int32.toNatClampNeg (x3 + (2 : Int32)))) (xs (Int32.toNatClampNeg (x3 + (3 : Int32)))) (xs (Int32.toNatClampNeg (x3 + (4 : Int32)))) (1 : Int32)).bind fun (I993, J994, r995) =>
    if r977 = r995 then
      let v997 := x3 + (7 : Int32)
      q18 σ I993 J994 D R x1 x2 v997
    else
      none
    else none
  else none
  else none
  else none
  else none
  else none
  else none
set_option maxHeartbeats 8000000 in
set_option maxRecDepth 100000 in
theorem wL_law_b898 {G : Gx} {l : Launch} {xs : Nat → Int32} {Lg : Nat} {σ0 : Shp} {σ : Shp} {I : Nat → Nat → Int32} {J : Nat → Nat → Int64} {D : Nat → Nat → UInt64} {R : Nat → Nat → Option Nat} {q18 : (Shp) → (Nat → Nat → Int32) → (Nat → Nat → Int64) → (Nat → Nat → UInt64) → (Nat → Nat → Option Nat) → (Option Nat) → (Option Nat) → (Int32) → (Option (Unit))} {x1 : Option Nat} {x2 : Option Nat} {x3 : Int32} {s0 : Option Nat} {s1 : Int32} {s2 : Int32} {s3 : Int32} {s4 : Int32} {s5 : Int32} (hq18 : ∀ (σ : Shp) (I : Nat → Nat → Int32) (J : Nat → Nat → Int64) (D : Nat → Nat → UInt64) (R : Nat → Nat → Option Nat) (x1 : Option Nat) (x2 : Option Nat) (x3 : Int32), q18 σ I J D R x1 x2 x3 = some () → WLaw G l xs Lg σ0 (σ, I, J, D, R) 18 [(0, vR (some 3)), (1, vR x1), (2, vR x2), (3, vI x3)] []) (h : fL_law_b898 q18 xs Lg σ I J D R x1 x2 x3 s0 s1 s2 s3 s4 s5 = some ()) : WLaw G l xs Lg σ0 (σ, I, J, D, R) 898 [(0, vR (some 3)), (1, vR x1), (2, vR x2), (3, vI x3)] [vI s5, vI s4, vI s3, vI s2, vI s1, vR s0] := by
  unfold fL_law_b898 at h
  obtain ⟨a973, ha973, h⟩ := ob h
  refine r_ref5 ha973 ?_
  obtain ⟨g974, h⟩ := gd h
  obtain ⟨⟨I975, J976, r977⟩, hc978, h⟩ := ob h
  refine r_callV1 (pc := 898) (av := [vI s1, vI s2, vI s3, vI s4, vI s5]) (S := []) dL_law_898 (kX11_countUp hc978) g974 rfl mkL_63 mwX11_countUp rfl ⟨Nat.le_of_ble_eq_true rfl, Nat.le_of_ble_eq_true rfl⟩ (Nat.le_of_ble_eq_true rfl) ⟨Nat.le_refl _, Nat.le_refl _⟩ (fun b => b) ?_
  refine r_aload_n (pc := 901) dL_law_901 rfl 2 rfl ?_
  refine r_aload_n (pc := 902) dL_law_902 rfl 0 rfl ?_
  refine r_iload_n (pc := 903) dL_law_903 rfl 3 rfl ?_
  refine r_iconst (pc := 904) dL_law_904 kc_iconst_1 ?_
  refine r_iadd (pc := 905) dL_law_905 ?_
  obtain ⟨g979, h⟩ := gd h
  refine r_scld (pc := 906) dL_law_906 g979 ?_
  refine r_aload_n (pc := 907) dL_law_907 rfl 0 rfl ?_
  refine r_iload_n (pc := 908) dL_law_908 rfl 3 rfl ?_
  refine r_iconst (pc := 909) dL_law_909 kc_iconst_2 ?_
  refine r_iadd (pc := 910) dL_law_910 ?_
  obtain ⟨g980, h⟩ := gd h
  refine r_scld (pc := 911) dL_law_911 g980 ?_
  refine r_aload_n (pc := 912) dL_law_912 rfl 0 rfl ?_
  refine r_iload_n (pc := 913) dL_law_913 rfl 3 rfl ?_
  refine r_iconst (pc := 914) dL_law_914 kc_iconst_3 ?_
  refine r_iadd (pc := 915) dL_law_915 ?_
  obtain ⟨g981, h⟩ := gd h
  refine r_scld (pc := 916) dL_law_916 g981 ?_
  refine r_aload_n (pc := 917) dL_law_917 rfl 0 rfl ?_
  refine r_iload_n (pc := 918) dL_law_918 rfl 3 rfl ?_
  refine r_iconst (pc := 919) dL_law_919 kc_iconst_4 ?_
  refine r_iadd (pc := 920) dL_law_920 ?_
  obtain ⟨g982, h⟩ := gd h
  refine r_scld (pc := 921) dL_law_921 g982 ?_
  refine r_aload_n (pc := 922) dL_law_922 rfl 0 rfl ?_
  refine r_iload_n (pc := 923) dL_law_923 rfl 3 rfl ?_
  refine r_iconst (pc := 924) dL_law_924 kc_iconst_5 ?_
  refine r_iadd (pc := 925) dL_law_925 ?_
  obtain ⟨g983, h⟩ := gd h
  refine r_scld (pc := 926) dL_law_926 g983 ?_
  refine r_if_eq (pc := 927) (tgt := 934) dL_law_927 rfl (fun c => ?_) (fun c => ?_)
  · have h := it h c
    refine r_iconst (pc := 934) dL_law_934 kc_iconst_0 ?_
    obtain ⟨a984, ha984, h⟩ := ob h
    refine r_ref5 ha984 ?_
    obtain ⟨g985, h⟩ := gd h
    obtain ⟨⟨I986, J987, r988⟩, hc989, h⟩ := ob h
    refine r_callV1 (pc := 935) (av := [vI (xs (Int32.toNatClampNeg (x3 + (1 : Int32)))), vI (xs (Int32.toNatClampNeg (x3 + (2 : Int32)))), vI (xs (Int32.toNatClampNeg (x3 + (3 : Int32)))), vI (xs (Int32.toNatClampNeg (x3 + (4 : Int32)))), vI (0 : Int32)]) (S := [vI r977]) dL_law_935 (kX12_countUp hc989) g985 rfl mkL_66 mwX12_countUp rfl ⟨Nat.le_of_ble_eq_true rfl, Nat.le_of_ble_eq_true rfl⟩ (Nat.le_of_ble_eq_true rfl) ⟨Nat.le_refl _, Nat.le_refl _⟩ (fun b => b) ?_
    refine r_icmp_eq (pc := 938) (tgt := 3270) dL_law_938 rfl (fun c => ?_) (fun c => ?_)
    · have h := it h c
      refine r_iinc (pc := 3270) (v := (x3 + (7 : Int32))) (L' := [(3, vI (x3 + (7 : Int32))), (0, vR (some 3)), (1, vR x1), (2, vR x2)]) dL_law_3270 3 rfl (kc_inc_7 _) (by decide) rfl ?_
      refine r_goto (pc := 3273) (tgt := 18) dL_law_3273 rfl ?_
      refine r_sub [1, 2, 3, 0] rfl ?_
      exact hq18 _ _ _ _ _ _ _ _ h
    · have h := ie h c
      refine r_iconst (pc := 941) dL_law_941 kc_iconst_0 ?_
      cases h
  · have h := ie h c
    refine r_iconst (pc := 930) dL_law_930 kc_iconst_1 ?_
    refine r_goto (pc := 931) (tgt := 935) dL_law_931 rfl ?_
    obtain ⟨a991, ha991, h⟩ := ob h
    refine r_ref5 ha991 ?_
    obtain ⟨g992, h⟩ := gd h
    obtain ⟨⟨I993, J994, r995⟩, hc996, h⟩ := ob h
    refine r_callV1 (pc := 935) (av := [vI (xs (Int32.toNatClampNeg (x3 + (1 : Int32)))), vI (xs (Int32.toNatClampNeg (x3 + (2 : Int32)))), vI (xs (Int32.toNatClampNeg (x3 + (3 : Int32)))), vI (xs (Int32.toNatClampNeg (x3 + (4 : Int32)))), vI (1 : Int32)]) (S := [vI r977]) dL_law_935 (kX12_countUp hc996) g992 rfl mkL_66 mwX12_countUp rfl ⟨Nat.le_of_ble_eq_true rfl, Nat.le_of_ble_eq_true rfl⟩ (Nat.le_of_ble_eq_true rfl) ⟨Nat.le_refl _, Nat.le_refl _⟩ (fun b => b) ?_
    refine r_icmp_eq (pc := 938) (tgt := 3270) dL_law_938 rfl (fun c => ?_) (fun c => ?_)
    · have h := it h c
      refine r_iinc (pc := 3270) (v := (x3 + (7 : Int32))) (L' := [(3, vI (x3 + (7 : Int32))), (0, vR (some 3)), (1, vR x1), (2, vR x2)]) dL_law_3270 3 rfl (kc_inc_7 _) (by decide) rfl ?_
      refine r_goto (pc := 3273) (tgt := 18) dL_law_3273 rfl ?_
      refine r_sub [1, 2, 3, 0] rfl ?_
      exact hq18 _ _ _ _ _ _ _ _ h
    · have h := ie h c
      refine r_iconst (pc := 941) dL_law_941 kc_iconst_0 ?_
      cases h
def fL_law_b864 (q18 : (Shp) → (Nat → Nat → Int32) → (Nat → Nat → Int64) → (Nat → Nat → UInt64) → (Nat → Nat → Option Nat) → (Option Nat) → (Option Nat) → (Int32) → (Option (Unit))) (xs : Nat → Int32) (Lg : Nat) (σ : Shp) (I : Nat → Nat → Int32) (J : Nat → Nat → Int64) (D : Nat → Nat → UInt64) (R : Nat → Nat → Option Nat) (x1 : Option Nat) (x2 : Option Nat) (x3 : Int32) : Option Unit :=
  if ¬ ((x3 + (1 : Int32)) < 0 ∨ Lg ≤ Int32.toNatClampNeg (x3 + (1 : Int32))) then
  if ¬ ((x3 + (2 : Int32)) < 0 ∨ Lg ≤ Int32.toNatClampNeg (x3 + (2 : Int32))) then
  if ¬ ((x3 + (3 : Int32)) < 0 ∨ Lg ≤ Int32.toNatClampNeg (x3 + (3 : Int32))) then
  if ¬ ((x3 + (4 : Int32)) < 0 ∨ Lg ≤ Int32.toNatClampNeg (x3 + (4 : Int32))) then
  if ¬ ((x3 + (5 : Int32)) < 0 ∨ Lg ≤ Int32.toNatClampNeg (x3 + (5 : Int32))) then
  if (xs (Int32.toNatClampNeg (x3 + (5 : Int32)))) = 0 then
    fL_law_b898 q18 xs Lg σ I J D R x1 x2 x3 x1 (xs (Int32.toNatClampNeg (x3 + (1 : Int32)))) (xs (Int32.toNatClampNeg (x3 + (2 : Int32)))) (xs (Int32.toNatClampNeg (x3 + (3 : Int32)))) (xs (Int32.toNatClampNeg (x3 + (4 : Int32)))) (0 : Int32)
  else
    fL_law_b898 q18 xs Lg σ I J D R x1 x2 x3 x1 (xs (Int32.toNatClampNeg (x3 + (1 : Int32)))) (xs (Int32.toNatClampNeg (x3 + (2 : Int32)))) (xs (Int32.toNatClampNeg (x3 + (3 : Int32)))) (xs (Int32.toNatClampNeg (x3 + (4 : Int32)))) (1 : Int32)
  else none
  else none
  else none
  else none
  else none
set_option maxHeartbeats 8000000 in
set_option maxRecDepth 100000 in
theorem wL_law_b864 {G : Gx} {l : Launch} {xs : Nat → Int32} {Lg : Nat} {σ0 : Shp} {σ : Shp} {I : Nat → Nat → Int32} {J : Nat → Nat → Int64} {D : Nat → Nat → UInt64} {R : Nat → Nat → Option Nat} {q18 : (Shp) → (Nat → Nat → Int32) → (Nat → Nat → Int64) → (Nat → Nat → UInt64) → (Nat → Nat → Option Nat) → (Option Nat) → (Option Nat) → (Int32) → (Option (Unit))} {x1 : Option Nat} {x2 : Option Nat} {x3 : Int32} (hq18 : ∀ (σ : Shp) (I : Nat → Nat → Int32) (J : Nat → Nat → Int64) (D : Nat → Nat → UInt64) (R : Nat → Nat → Option Nat) (x1 : Option Nat) (x2 : Option Nat) (x3 : Int32), q18 σ I J D R x1 x2 x3 = some () → WLaw G l xs Lg σ0 (σ, I, J, D, R) 18 [(0, vR (some 3)), (1, vR x1), (2, vR x2), (3, vI x3)] []) (h : fL_law_b864 q18 xs Lg σ I J D R x1 x2 x3 = some ()) : WLaw G l xs Lg σ0 (σ, I, J, D, R) 864 [(0, vR (some 3)), (1, vR x1), (2, vR x2), (3, vI x3)] [] := by
  unfold fL_law_b864 at h
  refine r_aload_n (pc := 864) dL_law_864 rfl 1 rfl ?_
  refine r_aload_n (pc := 865) dL_law_865 rfl 0 rfl ?_
  refine r_iload_n (pc := 866) dL_law_866 rfl 3 rfl ?_
  refine r_iconst (pc := 867) dL_law_867 kc_iconst_1 ?_
  refine r_iadd (pc := 868) dL_law_868 ?_
  obtain ⟨g968, h⟩ := gd h
  refine r_scld (pc := 869) dL_law_869 g968 ?_
  refine r_aload_n (pc := 870) dL_law_870 rfl 0 rfl ?_
  refine r_iload_n (pc := 871) dL_law_871 rfl 3 rfl ?_
  refine r_iconst (pc := 872) dL_law_872 kc_iconst_2 ?_
  refine r_iadd (pc := 873) dL_law_873 ?_
  obtain ⟨g969, h⟩ := gd h
  refine r_scld (pc := 874) dL_law_874 g969 ?_
  refine r_aload_n (pc := 875) dL_law_875 rfl 0 rfl ?_
  refine r_iload_n (pc := 876) dL_law_876 rfl 3 rfl ?_
  refine r_iconst (pc := 877) dL_law_877 kc_iconst_3 ?_
  refine r_iadd (pc := 878) dL_law_878 ?_
  obtain ⟨g970, h⟩ := gd h
  refine r_scld (pc := 879) dL_law_879 g970 ?_
  refine r_aload_n (pc := 880) dL_law_880 rfl 0 rfl ?_
  refine r_iload_n (pc := 881) dL_law_881 rfl 3 rfl ?_
  refine r_iconst (pc := 882) dL_law_882 kc_iconst_4 ?_
  refine r_iadd (pc := 883) dL_law_883 ?_
  obtain ⟨g971, h⟩ := gd h
  refine r_scld (pc := 884) dL_law_884 g971 ?_
  refine r_aload_n (pc := 885) dL_law_885 rfl 0 rfl ?_
  refine r_iload_n (pc := 886) dL_law_886 rfl 3 rfl ?_
  refine r_iconst (pc := 887) dL_law_887 kc_iconst_5 ?_
  refine r_iadd (pc := 888) dL_law_888 ?_
  obtain ⟨g972, h⟩ := gd h
  refine r_scld (pc := 889) dL_law_889 g972 ?_
  refine r_if_eq (pc := 890) (tgt := 897) dL_law_890 rfl (fun c => ?_) (fun c => ?_)
  · have h := it h c
    refine r_iconst (pc := 897) dL_law_897 kc_iconst_0 ?_
    refine r_sub [0, 1, 2, 3] rfl ?_
    exact wL_law_b898 hq18 h
  · have h := ie h c
    refine r_iconst (pc := 893) dL_law_893 kc_iconst_1 ?_
    refine r_goto (pc := 894) (tgt := 898) dL_law_894 rfl ?_
    refine r_sub [0, 1, 2, 3] rfl ?_
    exact wL_law_b898 hq18 h
def fL_law_b769 (q18 : (Shp) → (Nat → Nat → Int32) → (Nat → Nat → Int64) → (Nat → Nat → UInt64) → (Nat → Nat → Option Nat) → (Option Nat) → (Option Nat) → (Int32) → (Option (Unit))) (xs : Nat → Int32) (Lg : Nat) (σ : Shp) (I : Nat → Nat → Int32) (J : Nat → Nat → Int64) (D : Nat → Nat → UInt64) (R : Nat → Nat → Option Nat) (x1 : Option Nat) (x2 : Option Nat) (x3 : Int32) : Option Unit :=
  if ¬ ((x3 + (1 : Int32)) < 0 ∨ Lg ≤ Int32.toNatClampNeg (x3 + (1 : Int32))) then
  if ¬ ((x3 + (2 : Int32)) < 0 ∨ Lg ≤ Int32.toNatClampNeg (x3 + (2 : Int32))) then
  if ¬ ((x3 + (3 : Int32)) < 0 ∨ Lg ≤ Int32.toNatClampNeg (x3 + (3 : Int32))) then
  if ¬ ((x3 + (4 : Int32)) < 0 ∨ Lg ≤ Int32.toNatClampNeg (x3 + (4 : Int32))) then
  if ¬ ((x3 + (5 : Int32)) < 0 ∨ Lg ≤ Int32.toNatClampNeg (x3 + (5 : Int32))) then
  if ¬ ((x3 + (6 : Int32)) < 0 ∨ Lg ≤ Int32.toNatClampNeg (x3 + (6 : Int32))) then
  (x1 : Option Nat).bind fun a1004 =>
  if kdx σ a1004 = 12 then
  (fX11_setBed σ I J R a1004 (xs (Int32.toNatClampNeg (x3 + (1 : Int32)))) (xs (Int32.toNatClampNeg (x3 + (2 : Int32)))) (xs (Int32.toNatClampNeg (x3 + (3 : Int32)))) (xs (Int32.toNatClampNeg (x3 + (4 : Int32)))) (((Int32.toInt64 (xs (Int32.toNatClampNeg (x3 + (5 : Int32))))) <<< (Int32.toInt64 (32 : Int32) &&& 63)) ||| ((Int32.toInt64 (xs (Int32.toNatClampNeg (x3 + (6 : Int32))))) &&& (4294967295 : Int64)))).bind fun (I1006, J1007, r1008) =>
  (x2 : Option Nat).bind fun a1010 =>
  if kdx σ a1010 = 13 then
  (fX12_setBed σ I1006 J1007 R a1010 (xs (Int32.toNatClampNeg (x3 + (1 : Int32)))) (xs (Int32.toNatClampNeg (x3 + (2 : Int32)))) (xs (Int32.toNatClampNeg (x3 + (3 : Int32)))) (xs (Int32.toNatClampNeg (x3 + (4 : Int32)))) (((Int32.toInt64 (xs (Int32.toNatClampNeg (x3 + (5 : Int32))))) <<< (Int32.toInt64 (32 : Int32) &&& 63)) ||| ((Int32.toInt64 (xs (Int32.toNatClampNeg (x3 + (6 : Int32))))) &&& (4294967295 : Int64)))).bind fun (I1012, J1013, r1014) =>
  if r1008 = r1014 then
    let v1016 := x3 + (7 : Int32)
    q18 σ I1012 J1013 D R x1 x2 v1016
  else
    none
  else none
  else none
  else none
  else none
  else none
  else none
  else none
  else none
set_option maxHeartbeats 8000000 in
set_option maxRecDepth 100000 in
theorem wL_law_b769 {G : Gx} {l : Launch} {xs : Nat → Int32} {Lg : Nat} {σ0 : Shp} {σ : Shp} {I : Nat → Nat → Int32} {J : Nat → Nat → Int64} {D : Nat → Nat → UInt64} {R : Nat → Nat → Option Nat} {q18 : (Shp) → (Nat → Nat → Int32) → (Nat → Nat → Int64) → (Nat → Nat → UInt64) → (Nat → Nat → Option Nat) → (Option Nat) → (Option Nat) → (Int32) → (Option (Unit))} {x1 : Option Nat} {x2 : Option Nat} {x3 : Int32} (hq18 : ∀ (σ : Shp) (I : Nat → Nat → Int32) (J : Nat → Nat → Int64) (D : Nat → Nat → UInt64) (R : Nat → Nat → Option Nat) (x1 : Option Nat) (x2 : Option Nat) (x3 : Int32), q18 σ I J D R x1 x2 x3 = some () → WLaw G l xs Lg σ0 (σ, I, J, D, R) 18 [(0, vR (some 3)), (1, vR x1), (2, vR x2), (3, vI x3)] []) (h : fL_law_b769 q18 xs Lg σ I J D R x1 x2 x3 = some ()) : WLaw G l xs Lg σ0 (σ, I, J, D, R) 769 [(0, vR (some 3)), (1, vR x1), (2, vR x2), (3, vI x3)] [] := by
  unfold fL_law_b769 at h
  refine r_aload_n (pc := 769) dL_law_769 rfl 1 rfl ?_
  refine r_aload_n (pc := 770) dL_law_770 rfl 0 rfl ?_
  refine r_iload_n (pc := 771) dL_law_771 rfl 3 rfl ?_
  refine r_iconst (pc := 772) dL_law_772 kc_iconst_1 ?_
  refine r_iadd (pc := 773) dL_law_773 ?_
  obtain ⟨g998, h⟩ := gd h
  refine r_scld (pc := 774) dL_law_774 g998 ?_
  refine r_aload_n (pc := 775) dL_law_775 rfl 0 rfl ?_
  refine r_iload_n (pc := 776) dL_law_776 rfl 3 rfl ?_
  refine r_iconst (pc := 777) dL_law_777 kc_iconst_2 ?_
  refine r_iadd (pc := 778) dL_law_778 ?_
  obtain ⟨g999, h⟩ := gd h
  refine r_scld (pc := 779) dL_law_779 g999 ?_
  refine r_aload_n (pc := 780) dL_law_780 rfl 0 rfl ?_
  refine r_iload_n (pc := 781) dL_law_781 rfl 3 rfl ?_
  refine r_iconst (pc := 782) dL_law_782 kc_iconst_3 ?_
  refine r_iadd (pc := 783) dL_law_783 ?_
  obtain ⟨g1000, h⟩ := gd h
  refine r_scld (pc := 784) dL_law_784 g1000 ?_
  refine r_aload_n (pc := 785) dL_law_785 rfl 0 rfl ?_
  refine r_iload_n (pc := 786) dL_law_786 rfl 3 rfl ?_
  refine r_iconst (pc := 787) dL_law_787 kc_iconst_4 ?_
  refine r_iadd (pc := 788) dL_law_788 ?_
  obtain ⟨g1001, h⟩ := gd h
  refine r_scld (pc := 789) dL_law_789 g1001 ?_
  refine r_aload_n (pc := 790) dL_law_790 rfl 0 rfl ?_
  refine r_iload_n (pc := 791) dL_law_791 rfl 3 rfl ?_
  refine r_iconst (pc := 792) dL_law_792 kc_iconst_5 ?_
  refine r_iadd (pc := 793) dL_law_793 ?_
  obtain ⟨g1002, h⟩ := gd h
  refine r_scld (pc := 794) dL_law_794 g1002 ?_
  refine r_i2l (pc := 795) dL_law_795 ?_
  refine r_bipush (pc := 796) dL_law_796 kc_bipush_32 ?_
  refine r_lshl (pc := 798) dL_law_798 ?_
  refine r_aload_n (pc := 799) dL_law_799 rfl 0 rfl ?_
  refine r_iload_n (pc := 800) dL_law_800 rfl 3 rfl ?_
  refine r_bipush (pc := 801) dL_law_801 kc_bipush_6 ?_
  refine r_iadd (pc := 803) dL_law_803 ?_
  obtain ⟨g1003, h⟩ := gd h
  refine r_scld (pc := 804) dL_law_804 g1003 ?_
  refine r_i2l (pc := 805) dL_law_805 ?_
  refine r_ldc2 (pc := 806) dL_law_806 clL_46 ?_
  refine r_land (pc := 809) dL_law_809 ?_
  refine r_lor (pc := 810) dL_law_810 ?_
  obtain ⟨a1004, ha1004, h⟩ := ob h
  refine r_ref5 ha1004 ?_
  obtain ⟨g1005, h⟩ := gd h
  obtain ⟨⟨I1006, J1007, r1008⟩, hc1009, h⟩ := ob h
  refine r_callV1 (pc := 811) (av := [vI (xs (Int32.toNatClampNeg (x3 + (1 : Int32)))), vI (xs (Int32.toNatClampNeg (x3 + (2 : Int32)))), vI (xs (Int32.toNatClampNeg (x3 + (3 : Int32)))), vI (xs (Int32.toNatClampNeg (x3 + (4 : Int32)))), vL (((Int32.toInt64 (xs (Int32.toNatClampNeg (x3 + (5 : Int32))))) <<< (Int32.toInt64 (32 : Int32) &&& 63)) ||| ((Int32.toInt64 (xs (Int32.toNatClampNeg (x3 + (6 : Int32))))) &&& (4294967295 : Int64)))]) (S := []) dL_law_811 (kX11_setBed hc1009) g1005 rfl mkL_58 mwX11_setBed rfl ⟨Nat.le_of_ble_eq_true rfl, Nat.le_of_ble_eq_true rfl⟩ (Nat.le_of_ble_eq_true rfl) ⟨Nat.le_refl _, Nat.le_refl _⟩ (fun b => b) ?_
  refine r_aload_n (pc := 814) dL_law_814 rfl 2 rfl ?_
  refine r_aload_n (pc := 815) dL_law_815 rfl 0 rfl ?_
  refine r_iload_n (pc := 816) dL_law_816 rfl 3 rfl ?_
  refine r_iconst (pc := 817) dL_law_817 kc_iconst_1 ?_
  refine r_iadd (pc := 818) dL_law_818 ?_
  refine r_scld (pc := 819) dL_law_819 g998 ?_
  refine r_aload_n (pc := 820) dL_law_820 rfl 0 rfl ?_
  refine r_iload_n (pc := 821) dL_law_821 rfl 3 rfl ?_
  refine r_iconst (pc := 822) dL_law_822 kc_iconst_2 ?_
  refine r_iadd (pc := 823) dL_law_823 ?_
  refine r_scld (pc := 824) dL_law_824 g999 ?_
  refine r_aload_n (pc := 825) dL_law_825 rfl 0 rfl ?_
  refine r_iload_n (pc := 826) dL_law_826 rfl 3 rfl ?_
  refine r_iconst (pc := 827) dL_law_827 kc_iconst_3 ?_
  refine r_iadd (pc := 828) dL_law_828 ?_
  refine r_scld (pc := 829) dL_law_829 g1000 ?_
  refine r_aload_n (pc := 830) dL_law_830 rfl 0 rfl ?_
  refine r_iload_n (pc := 831) dL_law_831 rfl 3 rfl ?_
  refine r_iconst (pc := 832) dL_law_832 kc_iconst_4 ?_
  refine r_iadd (pc := 833) dL_law_833 ?_
  refine r_scld (pc := 834) dL_law_834 g1001 ?_
  refine r_aload_n (pc := 835) dL_law_835 rfl 0 rfl ?_
  refine r_iload_n (pc := 836) dL_law_836 rfl 3 rfl ?_
  refine r_iconst (pc := 837) dL_law_837 kc_iconst_5 ?_
  refine r_iadd (pc := 838) dL_law_838 ?_
  refine r_scld (pc := 839) dL_law_839 g1002 ?_
  refine r_i2l (pc := 840) dL_law_840 ?_
  refine r_bipush (pc := 841) dL_law_841 kc_bipush_32 ?_
  refine r_lshl (pc := 843) dL_law_843 ?_
  refine r_aload_n (pc := 844) dL_law_844 rfl 0 rfl ?_
  refine r_iload_n (pc := 845) dL_law_845 rfl 3 rfl ?_
  refine r_bipush (pc := 846) dL_law_846 kc_bipush_6 ?_
  refine r_iadd (pc := 848) dL_law_848 ?_
  refine r_scld (pc := 849) dL_law_849 g1003 ?_
  refine r_i2l (pc := 850) dL_law_850 ?_
  refine r_ldc2 (pc := 851) dL_law_851 clL_46 ?_
  refine r_land (pc := 854) dL_law_854 ?_
  refine r_lor (pc := 855) dL_law_855 ?_
  obtain ⟨a1010, ha1010, h⟩ := ob h
  refine r_ref5 ha1010 ?_
  obtain ⟨g1011, h⟩ := gd h
  obtain ⟨⟨I1012, J1013, r1014⟩, hc1015, h⟩ := ob h
  refine r_callV1 (pc := 856) (av := [vI (xs (Int32.toNatClampNeg (x3 + (1 : Int32)))), vI (xs (Int32.toNatClampNeg (x3 + (2 : Int32)))), vI (xs (Int32.toNatClampNeg (x3 + (3 : Int32)))), vI (xs (Int32.toNatClampNeg (x3 + (4 : Int32)))), vL (((Int32.toInt64 (xs (Int32.toNatClampNeg (x3 + (5 : Int32))))) <<< (Int32.toInt64 (32 : Int32) &&& 63)) ||| ((Int32.toInt64 (xs (Int32.toNatClampNeg (x3 + (6 : Int32))))) &&& (4294967295 : Int64)))]) (S := [vI r1008]) dL_law_856 (kX12_setBed hc1015) g1011 rfl mkL_62 mwX12_setBed rfl ⟨Nat.le_of_ble_eq_true rfl, Nat.le_of_ble_eq_true rfl⟩ (Nat.le_of_ble_eq_true rfl) ⟨Nat.le_refl _, Nat.le_refl _⟩ (fun b => b) ?_
  refine r_icmp_eq (pc := 859) (tgt := 3270) dL_law_859 rfl (fun c => ?_) (fun c => ?_)
  · have h := it h c
    refine r_iinc (pc := 3270) (v := (x3 + (7 : Int32))) (L' := [(3, vI (x3 + (7 : Int32))), (0, vR (some 3)), (1, vR x1), (2, vR x2)]) dL_law_3270 3 rfl (kc_inc_7 _) (by decide) rfl ?_
    refine r_goto (pc := 3273) (tgt := 18) dL_law_3273 rfl ?_
    refine r_sub [1, 2, 3, 0] rfl ?_
    exact hq18 _ _ _ _ _ _ _ _ h
  · have h := ie h c
    refine r_iconst (pc := 862) dL_law_862 kc_iconst_0 ?_
    cases h
def fL_law_b715 (q18 : (Shp) → (Nat → Nat → Int32) → (Nat → Nat → Int64) → (Nat → Nat → UInt64) → (Nat → Nat → Option Nat) → (Option Nat) → (Option Nat) → (Int32) → (Option (Unit))) (xs : Nat → Int32) (Lg : Nat) (σ : Shp) (I : Nat → Nat → Int32) (J : Nat → Nat → Int64) (D : Nat → Nat → UInt64) (R : Nat → Nat → Option Nat) (x1 : Option Nat) (x2 : Option Nat) (x3 : Int32) : Option Unit :=
  if ¬ ((x3 + (1 : Int32)) < 0 ∨ Lg ≤ Int32.toNatClampNeg (x3 + (1 : Int32))) then
  if ¬ ((x3 + (2 : Int32)) < 0 ∨ Lg ≤ Int32.toNatClampNeg (x3 + (2 : Int32))) then
  if ¬ ((x3 + (3 : Int32)) < 0 ∨ Lg ≤ Int32.toNatClampNeg (x3 + (3 : Int32))) then
  if ¬ ((x3 + (4 : Int32)) < 0 ∨ Lg ≤ Int32.toNatClampNeg (x3 + (4 : Int32))) then
  (x1 : Option Nat).bind fun a1021 =>
  if kdx σ a1021 = 12 then
  (fX11_bed σ I J R a1021 (xs (Int32.toNatClampNeg (x3 + (1 : Int32)))) (xs (Int32.toNatClampNeg (x3 + (2 : Int32)))) (xs (Int32.toNatClampNeg (x3 + (3 : Int32)))) (xs (Int32.toNatClampNeg (x3 + (4 : Int32))))).bind fun (I1023, r1024) =>
  (x2 : Option Nat).bind fun a1026 =>
  if kdx σ a1026 = 13 then
  (fX12_bed σ I1023 J R a1026 (xs (Int32.toNatClampNeg (x3 + (1 : Int32)))) (xs (Int32.toNatClampNeg (x3 + (2 : Int32)))) (xs (Int32.toNatClampNeg (x3 + (3 : Int32)))) (xs (Int32.toNatClampNeg (x3 + (4 : Int32))))).bind fun (I1028, r1029) =>
  if r1024 = r1029 then
    let v1031 := x3 + (7 : Int32)
    q18 σ I1028 J D R x1 x2 v1031
  else
    none
  else none
  else none
  else none
  else none
  else none
  else none
set_option maxHeartbeats 8000000 in
set_option maxRecDepth 100000 in
theorem wL_law_b715 {G : Gx} {l : Launch} {xs : Nat → Int32} {Lg : Nat} {σ0 : Shp} {σ : Shp} {I : Nat → Nat → Int32} {J : Nat → Nat → Int64} {D : Nat → Nat → UInt64} {R : Nat → Nat → Option Nat} {q18 : (Shp) → (Nat → Nat → Int32) → (Nat → Nat → Int64) → (Nat → Nat → UInt64) → (Nat → Nat → Option Nat) → (Option Nat) → (Option Nat) → (Int32) → (Option (Unit))} {x1 : Option Nat} {x2 : Option Nat} {x3 : Int32} (hq18 : ∀ (σ : Shp) (I : Nat → Nat → Int32) (J : Nat → Nat → Int64) (D : Nat → Nat → UInt64) (R : Nat → Nat → Option Nat) (x1 : Option Nat) (x2 : Option Nat) (x3 : Int32), q18 σ I J D R x1 x2 x3 = some () → WLaw G l xs Lg σ0 (σ, I, J, D, R) 18 [(0, vR (some 3)), (1, vR x1), (2, vR x2), (3, vI x3)] []) (h : fL_law_b715 q18 xs Lg σ I J D R x1 x2 x3 = some ()) : WLaw G l xs Lg σ0 (σ, I, J, D, R) 715 [(0, vR (some 3)), (1, vR x1), (2, vR x2), (3, vI x3)] [] := by
  unfold fL_law_b715 at h
  refine r_aload_n (pc := 715) dL_law_715 rfl 1 rfl ?_
  refine r_aload_n (pc := 716) dL_law_716 rfl 0 rfl ?_
  refine r_iload_n (pc := 717) dL_law_717 rfl 3 rfl ?_
  refine r_iconst (pc := 718) dL_law_718 kc_iconst_1 ?_
  refine r_iadd (pc := 719) dL_law_719 ?_
  obtain ⟨g1017, h⟩ := gd h
  refine r_scld (pc := 720) dL_law_720 g1017 ?_
  refine r_aload_n (pc := 721) dL_law_721 rfl 0 rfl ?_
  refine r_iload_n (pc := 722) dL_law_722 rfl 3 rfl ?_
  refine r_iconst (pc := 723) dL_law_723 kc_iconst_2 ?_
  refine r_iadd (pc := 724) dL_law_724 ?_
  obtain ⟨g1018, h⟩ := gd h
  refine r_scld (pc := 725) dL_law_725 g1018 ?_
  refine r_aload_n (pc := 726) dL_law_726 rfl 0 rfl ?_
  refine r_iload_n (pc := 727) dL_law_727 rfl 3 rfl ?_
  refine r_iconst (pc := 728) dL_law_728 kc_iconst_3 ?_
  refine r_iadd (pc := 729) dL_law_729 ?_
  obtain ⟨g1019, h⟩ := gd h
  refine r_scld (pc := 730) dL_law_730 g1019 ?_
  refine r_aload_n (pc := 731) dL_law_731 rfl 0 rfl ?_
  refine r_iload_n (pc := 732) dL_law_732 rfl 3 rfl ?_
  refine r_iconst (pc := 733) dL_law_733 kc_iconst_4 ?_
  refine r_iadd (pc := 734) dL_law_734 ?_
  obtain ⟨g1020, h⟩ := gd h
  refine r_scld (pc := 735) dL_law_735 g1020 ?_
  obtain ⟨a1021, ha1021, h⟩ := ob h
  refine r_ref4 ha1021 ?_
  obtain ⟨g1022, h⟩ := gd h
  obtain ⟨⟨I1023, r1024⟩, hc1025, h⟩ := ob h
  refine r_callV1 (pc := 736) (av := [vI (xs (Int32.toNatClampNeg (x3 + (1 : Int32)))), vI (xs (Int32.toNatClampNeg (x3 + (2 : Int32)))), vI (xs (Int32.toNatClampNeg (x3 + (3 : Int32)))), vI (xs (Int32.toNatClampNeg (x3 + (4 : Int32))))]) (S := []) dL_law_736 (kX11_bed hc1025) g1022 rfl mkL_53 mwX11_bed rfl ⟨Nat.le_of_ble_eq_true rfl, Nat.le_of_ble_eq_true rfl⟩ (Nat.le_of_ble_eq_true rfl) ⟨Nat.le_refl _, Nat.le_refl _⟩ (fun b => b) ?_
  refine r_aload_n (pc := 739) dL_law_739 rfl 2 rfl ?_
  refine r_aload_n (pc := 740) dL_law_740 rfl 0 rfl ?_
  refine r_iload_n (pc := 741) dL_law_741 rfl 3 rfl ?_
  refine r_iconst (pc := 742) dL_law_742 kc_iconst_1 ?_
  refine r_iadd (pc := 743) dL_law_743 ?_
  refine r_scld (pc := 744) dL_law_744 g1017 ?_
  refine r_aload_n (pc := 745) dL_law_745 rfl 0 rfl ?_
  refine r_iload_n (pc := 746) dL_law_746 rfl 3 rfl ?_
  refine r_iconst (pc := 747) dL_law_747 kc_iconst_2 ?_
  refine r_iadd (pc := 748) dL_law_748 ?_
  refine r_scld (pc := 749) dL_law_749 g1018 ?_
  refine r_aload_n (pc := 750) dL_law_750 rfl 0 rfl ?_
  refine r_iload_n (pc := 751) dL_law_751 rfl 3 rfl ?_
  refine r_iconst (pc := 752) dL_law_752 kc_iconst_3 ?_
  refine r_iadd (pc := 753) dL_law_753 ?_
  refine r_scld (pc := 754) dL_law_754 g1019 ?_
  refine r_aload_n (pc := 755) dL_law_755 rfl 0 rfl ?_
  refine r_iload_n (pc := 756) dL_law_756 rfl 3 rfl ?_
  refine r_iconst (pc := 757) dL_law_757 kc_iconst_4 ?_
  refine r_iadd (pc := 758) dL_law_758 ?_
  refine r_scld (pc := 759) dL_law_759 g1020 ?_
  obtain ⟨a1026, ha1026, h⟩ := ob h
  refine r_ref4 ha1026 ?_
  obtain ⟨g1027, h⟩ := gd h
  obtain ⟨⟨I1028, r1029⟩, hc1030, h⟩ := ob h
  refine r_callV1 (pc := 760) (av := [vI (xs (Int32.toNatClampNeg (x3 + (1 : Int32)))), vI (xs (Int32.toNatClampNeg (x3 + (2 : Int32)))), vI (xs (Int32.toNatClampNeg (x3 + (3 : Int32)))), vI (xs (Int32.toNatClampNeg (x3 + (4 : Int32))))]) (S := [vL r1024]) dL_law_760 (kX12_bed hc1030) g1027 rfl mkL_57 mwX12_bed rfl ⟨Nat.le_of_ble_eq_true rfl, Nat.le_of_ble_eq_true rfl⟩ (Nat.le_of_ble_eq_true rfl) ⟨Nat.le_refl _, Nat.le_refl _⟩ (fun b => b) ?_
  refine r_lcmp (pc := 763) dL_law_763 ?_
  refine r_if_eq (pc := 764) (tgt := 3270) dL_law_764 rfl (fun c => ?_) (fun c => ?_)
  · have h := it h (lgc_eq.mp c)
    refine r_iinc (pc := 3270) (v := (x3 + (7 : Int32))) (L' := [(3, vI (x3 + (7 : Int32))), (0, vR (some 3)), (1, vR x1), (2, vR x2)]) dL_law_3270 3 rfl (kc_inc_7 _) (by decide) rfl ?_
    refine r_goto (pc := 3273) (tgt := 18) dL_law_3273 rfl ?_
    refine r_sub [1, 2, 3, 0] rfl ?_
    exact hq18 _ _ _ _ _ _ _ _ h
  · have h := ie h (fun q => c (lgc_eq.mpr q))
    refine r_iconst (pc := 767) dL_law_767 kc_iconst_0 ?_
    cases h
def fL_law_b632 (q18 : (Shp) → (Nat → Nat → Int32) → (Nat → Nat → Int64) → (Nat → Nat → UInt64) → (Nat → Nat → Option Nat) → (Option Nat) → (Option Nat) → (Int32) → (Option (Unit))) (xs : Nat → Int32) (Lg : Nat) (σ : Shp) (I : Nat → Nat → Int32) (J : Nat → Nat → Int64) (D : Nat → Nat → UInt64) (R : Nat → Nat → Option Nat) (x1 : Option Nat) (x2 : Option Nat) (x3 : Int32) : Option Unit :=
  if ¬ ((x3 + (1 : Int32)) < 0 ∨ Lg ≤ Int32.toNatClampNeg (x3 + (1 : Int32))) then
  if ¬ ((x3 + (2 : Int32)) < 0 ∨ Lg ≤ Int32.toNatClampNeg (x3 + (2 : Int32))) then
  if ¬ ((x3 + (3 : Int32)) < 0 ∨ Lg ≤ Int32.toNatClampNeg (x3 + (3 : Int32))) then
  if ¬ ((x3 + (4 : Int32)) < 0 ∨ Lg ≤ Int32.toNatClampNeg (x3 + (4 : Int32))) then
  if ¬ ((x3 + (5 : Int32)) < 0 ∨ Lg ≤ Int32.toNatClampNeg (x3 + (5 : Int32))) then
  (x1 : Option Nat).bind fun a1037 =>
  if kdx σ a1037 = 12 then
  (fX11_put σ I J R a1037 (xs (Int32.toNatClampNeg (x3 + (1 : Int32)))) (xs (Int32.toNatClampNeg (x3 + (2 : Int32)))) (xs (Int32.toNatClampNeg (x3 + (3 : Int32)))) (((Int32.toInt64 (xs (Int32.toNatClampNeg (x3 + (4 : Int32))))) <<< (Int32.toInt64 (32 : Int32) &&& 63)) ||| ((Int32.toInt64 (xs (Int32.toNatClampNeg (x3 + (5 : Int32))))) &&& (4294967295 : Int64)))).bind fun (I1039, J1040, r1041) =>
  (x2 : Option Nat).bind fun a1043 =>
  if kdx σ a1043 = 13 then
  (fX12_put σ I1039 J1040 R a1043 (xs (Int32.toNatClampNeg (x3 + (1 : Int32)))) (xs (Int32.toNatClampNeg (x3 + (2 : Int32)))) (xs (Int32.toNatClampNeg (x3 + (3 : Int32)))) (((Int32.toInt64 (xs (Int32.toNatClampNeg (x3 + (4 : Int32))))) <<< (Int32.toInt64 (32 : Int32) &&& 63)) ||| ((Int32.toInt64 (xs (Int32.toNatClampNeg (x3 + (5 : Int32))))) &&& (4294967295 : Int64)))).bind fun (I1045, J1046, r1047) =>
  if r1041 = r1047 then
    let v1049 := x3 + (7 : Int32)
    q18 σ I1045 J1046 D R x1 x2 v1049
  else
    none
  else none
  else none
  else none
  else none
  else none
  else none
  else none
set_option maxHeartbeats 8000000 in
set_option maxRecDepth 100000 in
theorem wL_law_b632 {G : Gx} {l : Launch} {xs : Nat → Int32} {Lg : Nat} {σ0 : Shp} {σ : Shp} {I : Nat → Nat → Int32} {J : Nat → Nat → Int64} {D : Nat → Nat → UInt64} {R : Nat → Nat → Option Nat} {q18 : (Shp) → (Nat → Nat → Int32) → (Nat → Nat → Int64) → (Nat → Nat → UInt64) → (Nat → Nat → Option Nat) → (Option Nat) → (Option Nat) → (Int32) → (Option (Unit))} {x1 : Option Nat} {x2 : Option Nat} {x3 : Int32} (hq18 : ∀ (σ : Shp) (I : Nat → Nat → Int32) (J : Nat → Nat → Int64) (D : Nat → Nat → UInt64) (R : Nat → Nat → Option Nat) (x1 : Option Nat) (x2 : Option Nat) (x3 : Int32), q18 σ I J D R x1 x2 x3 = some () → WLaw G l xs Lg σ0 (σ, I, J, D, R) 18 [(0, vR (some 3)), (1, vR x1), (2, vR x2), (3, vI x3)] []) (h : fL_law_b632 q18 xs Lg σ I J D R x1 x2 x3 = some ()) : WLaw G l xs Lg σ0 (σ, I, J, D, R) 632 [(0, vR (some 3)), (1, vR x1), (2, vR x2), (3, vI x3)] [] := by
  unfold fL_law_b632 at h
  refine r_aload_n (pc := 632) dL_law_632 rfl 1 rfl ?_
  refine r_aload_n (pc := 633) dL_law_633 rfl 0 rfl ?_
  refine r_iload_n (pc := 634) dL_law_634 rfl 3 rfl ?_
  refine r_iconst (pc := 635) dL_law_635 kc_iconst_1 ?_
  refine r_iadd (pc := 636) dL_law_636 ?_
  obtain ⟨g1032, h⟩ := gd h
  refine r_scld (pc := 637) dL_law_637 g1032 ?_
  refine r_aload_n (pc := 638) dL_law_638 rfl 0 rfl ?_
  refine r_iload_n (pc := 639) dL_law_639 rfl 3 rfl ?_
  refine r_iconst (pc := 640) dL_law_640 kc_iconst_2 ?_
  refine r_iadd (pc := 641) dL_law_641 ?_
  obtain ⟨g1033, h⟩ := gd h
  refine r_scld (pc := 642) dL_law_642 g1033 ?_
  refine r_aload_n (pc := 643) dL_law_643 rfl 0 rfl ?_
  refine r_iload_n (pc := 644) dL_law_644 rfl 3 rfl ?_
  refine r_iconst (pc := 645) dL_law_645 kc_iconst_3 ?_
  refine r_iadd (pc := 646) dL_law_646 ?_
  obtain ⟨g1034, h⟩ := gd h
  refine r_scld (pc := 647) dL_law_647 g1034 ?_
  refine r_aload_n (pc := 648) dL_law_648 rfl 0 rfl ?_
  refine r_iload_n (pc := 649) dL_law_649 rfl 3 rfl ?_
  refine r_iconst (pc := 650) dL_law_650 kc_iconst_4 ?_
  refine r_iadd (pc := 651) dL_law_651 ?_
  obtain ⟨g1035, h⟩ := gd h
  refine r_scld (pc := 652) dL_law_652 g1035 ?_
  refine r_i2l (pc := 653) dL_law_653 ?_
  refine r_bipush (pc := 654) dL_law_654 kc_bipush_32 ?_
  refine r_lshl (pc := 656) dL_law_656 ?_
  refine r_aload_n (pc := 657) dL_law_657 rfl 0 rfl ?_
  refine r_iload_n (pc := 658) dL_law_658 rfl 3 rfl ?_
  refine r_iconst (pc := 659) dL_law_659 kc_iconst_5 ?_
  refine r_iadd (pc := 660) dL_law_660 ?_
  obtain ⟨g1036, h⟩ := gd h
  refine r_scld (pc := 661) dL_law_661 g1036 ?_
  refine r_i2l (pc := 662) dL_law_662 ?_
  refine r_ldc2 (pc := 663) dL_law_663 clL_46 ?_
  refine r_land (pc := 666) dL_law_666 ?_
  refine r_lor (pc := 667) dL_law_667 ?_
  obtain ⟨a1037, ha1037, h⟩ := ob h
  refine r_ref4 ha1037 ?_
  obtain ⟨g1038, h⟩ := gd h
  obtain ⟨⟨I1039, J1040, r1041⟩, hc1042, h⟩ := ob h
  refine r_callV1 (pc := 668) (av := [vI (xs (Int32.toNatClampNeg (x3 + (1 : Int32)))), vI (xs (Int32.toNatClampNeg (x3 + (2 : Int32)))), vI (xs (Int32.toNatClampNeg (x3 + (3 : Int32)))), vL (((Int32.toInt64 (xs (Int32.toNatClampNeg (x3 + (4 : Int32))))) <<< (Int32.toInt64 (32 : Int32) &&& 63)) ||| ((Int32.toInt64 (xs (Int32.toNatClampNeg (x3 + (5 : Int32))))) &&& (4294967295 : Int64)))]) (S := []) dL_law_668 (kX11_put hc1042) g1038 rfl mkL_48 mwX11_put rfl ⟨Nat.le_of_ble_eq_true rfl, Nat.le_of_ble_eq_true rfl⟩ (Nat.le_of_ble_eq_true rfl) ⟨Nat.le_refl _, Nat.le_refl _⟩ (fun b => b) ?_
  refine r_aload_n (pc := 671) dL_law_671 rfl 2 rfl ?_
  refine r_aload_n (pc := 672) dL_law_672 rfl 0 rfl ?_
  refine r_iload_n (pc := 673) dL_law_673 rfl 3 rfl ?_
  refine r_iconst (pc := 674) dL_law_674 kc_iconst_1 ?_
  refine r_iadd (pc := 675) dL_law_675 ?_
  refine r_scld (pc := 676) dL_law_676 g1032 ?_
  refine r_aload_n (pc := 677) dL_law_677 rfl 0 rfl ?_
  refine r_iload_n (pc := 678) dL_law_678 rfl 3 rfl ?_
  refine r_iconst (pc := 679) dL_law_679 kc_iconst_2 ?_
  refine r_iadd (pc := 680) dL_law_680 ?_
  refine r_scld (pc := 681) dL_law_681 g1033 ?_
  refine r_aload_n (pc := 682) dL_law_682 rfl 0 rfl ?_
  refine r_iload_n (pc := 683) dL_law_683 rfl 3 rfl ?_
  refine r_iconst (pc := 684) dL_law_684 kc_iconst_3 ?_
  refine r_iadd (pc := 685) dL_law_685 ?_
  refine r_scld (pc := 686) dL_law_686 g1034 ?_
  refine r_aload_n (pc := 687) dL_law_687 rfl 0 rfl ?_
  refine r_iload_n (pc := 688) dL_law_688 rfl 3 rfl ?_
  refine r_iconst (pc := 689) dL_law_689 kc_iconst_4 ?_
  refine r_iadd (pc := 690) dL_law_690 ?_
  refine r_scld (pc := 691) dL_law_691 g1035 ?_
  refine r_i2l (pc := 692) dL_law_692 ?_
  refine r_bipush (pc := 693) dL_law_693 kc_bipush_32 ?_
  refine r_lshl (pc := 695) dL_law_695 ?_
  refine r_aload_n (pc := 696) dL_law_696 rfl 0 rfl ?_
  refine r_iload_n (pc := 697) dL_law_697 rfl 3 rfl ?_
  refine r_iconst (pc := 698) dL_law_698 kc_iconst_5 ?_
  refine r_iadd (pc := 699) dL_law_699 ?_
  refine r_scld (pc := 700) dL_law_700 g1036 ?_
  refine r_i2l (pc := 701) dL_law_701 ?_
  refine r_ldc2 (pc := 702) dL_law_702 clL_46 ?_
  refine r_land (pc := 705) dL_law_705 ?_
  refine r_lor (pc := 706) dL_law_706 ?_
  obtain ⟨a1043, ha1043, h⟩ := ob h
  refine r_ref4 ha1043 ?_
  obtain ⟨g1044, h⟩ := gd h
  obtain ⟨⟨I1045, J1046, r1047⟩, hc1048, h⟩ := ob h
  refine r_callV1 (pc := 707) (av := [vI (xs (Int32.toNatClampNeg (x3 + (1 : Int32)))), vI (xs (Int32.toNatClampNeg (x3 + (2 : Int32)))), vI (xs (Int32.toNatClampNeg (x3 + (3 : Int32)))), vL (((Int32.toInt64 (xs (Int32.toNatClampNeg (x3 + (4 : Int32))))) <<< (Int32.toInt64 (32 : Int32) &&& 63)) ||| ((Int32.toInt64 (xs (Int32.toNatClampNeg (x3 + (5 : Int32))))) &&& (4294967295 : Int64)))]) (S := [vI r1041]) dL_law_707 (kX12_put hc1048) g1044 rfl mkL_52 mwX12_put rfl ⟨Nat.le_of_ble_eq_true rfl, Nat.le_of_ble_eq_true rfl⟩ (Nat.le_of_ble_eq_true rfl) ⟨Nat.le_refl _, Nat.le_refl _⟩ (fun b => b) ?_
  refine r_icmp_eq (pc := 710) (tgt := 3270) dL_law_710 rfl (fun c => ?_) (fun c => ?_)
  · have h := it h c
    refine r_iinc (pc := 3270) (v := (x3 + (7 : Int32))) (L' := [(3, vI (x3 + (7 : Int32))), (0, vR (some 3)), (1, vR x1), (2, vR x2)]) dL_law_3270 3 rfl (kc_inc_7 _) (by decide) rfl ?_
    refine r_goto (pc := 3273) (tgt := 18) dL_law_3273 rfl ?_
    refine r_sub [1, 2, 3, 0] rfl ?_
    exact hq18 _ _ _ _ _ _ _ _ h
  · have h := ie h c
    refine r_iconst (pc := 713) dL_law_713 kc_iconst_0 ?_
    cases h
def fL_law_b588 (q18 : (Shp) → (Nat → Nat → Int32) → (Nat → Nat → Int64) → (Nat → Nat → UInt64) → (Nat → Nat → Option Nat) → (Option Nat) → (Option Nat) → (Int32) → (Option (Unit))) (xs : Nat → Int32) (Lg : Nat) (σ : Shp) (I : Nat → Nat → Int32) (J : Nat → Nat → Int64) (D : Nat → Nat → UInt64) (R : Nat → Nat → Option Nat) (x1 : Option Nat) (x2 : Option Nat) (x3 : Int32) : Option Unit :=
  if ¬ ((x3 + (1 : Int32)) < 0 ∨ Lg ≤ Int32.toNatClampNeg (x3 + (1 : Int32))) then
  if ¬ ((x3 + (2 : Int32)) < 0 ∨ Lg ≤ Int32.toNatClampNeg (x3 + (2 : Int32))) then
  if ¬ ((x3 + (3 : Int32)) < 0 ∨ Lg ≤ Int32.toNatClampNeg (x3 + (3 : Int32))) then
  (x1 : Option Nat).bind fun a1053 =>
  if kdx σ a1053 = 12 then
  (fX11_get σ I J R a1053 (xs (Int32.toNatClampNeg (x3 + (1 : Int32)))) (xs (Int32.toNatClampNeg (x3 + (2 : Int32)))) (xs (Int32.toNatClampNeg (x3 + (3 : Int32))))).bind fun (I1055, r1056) =>
  (x2 : Option Nat).bind fun a1058 =>
  if kdx σ a1058 = 13 then
  (fX12_get σ I1055 J R a1058 (xs (Int32.toNatClampNeg (x3 + (1 : Int32)))) (xs (Int32.toNatClampNeg (x3 + (2 : Int32)))) (xs (Int32.toNatClampNeg (x3 + (3 : Int32))))).bind fun (I1060, r1061) =>
  if r1056 = r1061 then
    let v1063 := x3 + (7 : Int32)
    q18 σ I1060 J D R x1 x2 v1063
  else
    none
  else none
  else none
  else none
  else none
  else none
set_option maxHeartbeats 8000000 in
set_option maxRecDepth 100000 in
theorem wL_law_b588 {G : Gx} {l : Launch} {xs : Nat → Int32} {Lg : Nat} {σ0 : Shp} {σ : Shp} {I : Nat → Nat → Int32} {J : Nat → Nat → Int64} {D : Nat → Nat → UInt64} {R : Nat → Nat → Option Nat} {q18 : (Shp) → (Nat → Nat → Int32) → (Nat → Nat → Int64) → (Nat → Nat → UInt64) → (Nat → Nat → Option Nat) → (Option Nat) → (Option Nat) → (Int32) → (Option (Unit))} {x1 : Option Nat} {x2 : Option Nat} {x3 : Int32} (hq18 : ∀ (σ : Shp) (I : Nat → Nat → Int32) (J : Nat → Nat → Int64) (D : Nat → Nat → UInt64) (R : Nat → Nat → Option Nat) (x1 : Option Nat) (x2 : Option Nat) (x3 : Int32), q18 σ I J D R x1 x2 x3 = some () → WLaw G l xs Lg σ0 (σ, I, J, D, R) 18 [(0, vR (some 3)), (1, vR x1), (2, vR x2), (3, vI x3)] []) (h : fL_law_b588 q18 xs Lg σ I J D R x1 x2 x3 = some ()) : WLaw G l xs Lg σ0 (σ, I, J, D, R) 588 [(0, vR (some 3)), (1, vR x1), (2, vR x2), (3, vI x3)] [] := by
  unfold fL_law_b588 at h
  refine r_aload_n (pc := 588) dL_law_588 rfl 1 rfl ?_
  refine r_aload_n (pc := 589) dL_law_589 rfl 0 rfl ?_
  refine r_iload_n (pc := 590) dL_law_590 rfl 3 rfl ?_
  refine r_iconst (pc := 591) dL_law_591 kc_iconst_1 ?_
  refine r_iadd (pc := 592) dL_law_592 ?_
  obtain ⟨g1050, h⟩ := gd h
  refine r_scld (pc := 593) dL_law_593 g1050 ?_
  refine r_aload_n (pc := 594) dL_law_594 rfl 0 rfl ?_
  refine r_iload_n (pc := 595) dL_law_595 rfl 3 rfl ?_
  refine r_iconst (pc := 596) dL_law_596 kc_iconst_2 ?_
  refine r_iadd (pc := 597) dL_law_597 ?_
  obtain ⟨g1051, h⟩ := gd h
  refine r_scld (pc := 598) dL_law_598 g1051 ?_
  refine r_aload_n (pc := 599) dL_law_599 rfl 0 rfl ?_
  refine r_iload_n (pc := 600) dL_law_600 rfl 3 rfl ?_
  refine r_iconst (pc := 601) dL_law_601 kc_iconst_3 ?_
  refine r_iadd (pc := 602) dL_law_602 ?_
  obtain ⟨g1052, h⟩ := gd h
  refine r_scld (pc := 603) dL_law_603 g1052 ?_
  obtain ⟨a1053, ha1053, h⟩ := ob h
  refine r_ref3 ha1053 ?_
  obtain ⟨g1054, h⟩ := gd h
  obtain ⟨⟨I1055, r1056⟩, hc1057, h⟩ := ob h
  refine r_callV1 (pc := 604) (av := [vI (xs (Int32.toNatClampNeg (x3 + (1 : Int32)))), vI (xs (Int32.toNatClampNeg (x3 + (2 : Int32)))), vI (xs (Int32.toNatClampNeg (x3 + (3 : Int32))))]) (S := []) dL_law_604 (kX11_get hc1057) g1054 rfl mkL_41 mwX11_get rfl ⟨Nat.le_of_ble_eq_true rfl, Nat.le_of_ble_eq_true rfl⟩ (Nat.le_of_ble_eq_true rfl) ⟨Nat.le_refl _, Nat.le_refl _⟩ (fun b => b) ?_
  refine r_aload_n (pc := 607) dL_law_607 rfl 2 rfl ?_
  refine r_aload_n (pc := 608) dL_law_608 rfl 0 rfl ?_
  refine r_iload_n (pc := 609) dL_law_609 rfl 3 rfl ?_
  refine r_iconst (pc := 610) dL_law_610 kc_iconst_1 ?_
  refine r_iadd (pc := 611) dL_law_611 ?_
  refine r_scld (pc := 612) dL_law_612 g1050 ?_
  refine r_aload_n (pc := 613) dL_law_613 rfl 0 rfl ?_
  refine r_iload_n (pc := 614) dL_law_614 rfl 3 rfl ?_
  refine r_iconst (pc := 615) dL_law_615 kc_iconst_2 ?_
  refine r_iadd (pc := 616) dL_law_616 ?_
  refine r_scld (pc := 617) dL_law_617 g1051 ?_
  refine r_aload_n (pc := 618) dL_law_618 rfl 0 rfl ?_
  refine r_iload_n (pc := 619) dL_law_619 rfl 3 rfl ?_
  refine r_iconst (pc := 620) dL_law_620 kc_iconst_3 ?_
  refine r_iadd (pc := 621) dL_law_621 ?_
  refine r_scld (pc := 622) dL_law_622 g1052 ?_
  obtain ⟨a1058, ha1058, h⟩ := ob h
  refine r_ref3 ha1058 ?_
  obtain ⟨g1059, h⟩ := gd h
  obtain ⟨⟨I1060, r1061⟩, hc1062, h⟩ := ob h
  refine r_callV1 (pc := 623) (av := [vI (xs (Int32.toNatClampNeg (x3 + (1 : Int32)))), vI (xs (Int32.toNatClampNeg (x3 + (2 : Int32)))), vI (xs (Int32.toNatClampNeg (x3 + (3 : Int32))))]) (S := [vL r1056]) dL_law_623 (kX12_get hc1062) g1059 rfl mkL_45 mwX12_get rfl ⟨Nat.le_of_ble_eq_true rfl, Nat.le_of_ble_eq_true rfl⟩ (Nat.le_of_ble_eq_true rfl) ⟨Nat.le_refl _, Nat.le_refl _⟩ (fun b => b) ?_
  refine r_lcmp (pc := 626) dL_law_626 ?_
  refine r_if_eq (pc := 627) (tgt := 3270) dL_law_627 rfl (fun c => ?_) (fun c => ?_)
  · have h := it h (lgc_eq.mp c)
    refine r_iinc (pc := 3270) (v := (x3 + (7 : Int32))) (L' := [(3, vI (x3 + (7 : Int32))), (0, vR (some 3)), (1, vR x1), (2, vR x2)]) dL_law_3270 3 rfl (kc_inc_7 _) (by decide) rfl ?_
    refine r_goto (pc := 3273) (tgt := 18) dL_law_3273 rfl ?_
    refine r_sub [1, 2, 3, 0] rfl ?_
    exact hq18 _ _ _ _ _ _ _ _ h
  · have h := ie h (fun q => c (lgc_eq.mpr q))
    refine r_iconst (pc := 630) dL_law_630 kc_iconst_0 ?_
    cases h
def fL_law_b555 (q18 : (Shp) → (Nat → Nat → Int32) → (Nat → Nat → Int64) → (Nat → Nat → UInt64) → (Nat → Nat → Option Nat) → (Option Nat) → (Option Nat) → (Int32) → (Option (Unit))) (xs : Nat → Int32) (Lg : Nat) (σ : Shp) (I : Nat → Nat → Int32) (J : Nat → Nat → Int64) (D : Nat → Nat → UInt64) (R : Nat → Nat → Option Nat) (x1 : Option Nat) (x2 : Option Nat) (x3 : Int32) : Option Unit :=
  if ¬ ((x3 + (1 : Int32)) < 0 ∨ Lg ≤ Int32.toNatClampNeg (x3 + (1 : Int32))) then
  if ¬ ((x3 + (2 : Int32)) < 0 ∨ Lg ≤ Int32.toNatClampNeg (x3 + (2 : Int32))) then
  (x1 : Option Nat).bind fun a1066 =>
  if kdx σ a1066 = 12 then
  (fX11_is σ I R a1066 (xs (Int32.toNatClampNeg (x3 + (1 : Int32)))) (xs (Int32.toNatClampNeg (x3 + (2 : Int32))))).bind fun r1068 =>
  (x2 : Option Nat).bind fun a1070 =>
  if kdx σ a1070 = 13 then
  (fX12_is σ I R a1070 (xs (Int32.toNatClampNeg (x3 + (1 : Int32)))) (xs (Int32.toNatClampNeg (x3 + (2 : Int32))))).bind fun r1072 =>
  if r1068 = r1072 then
    let v1074 := x3 + (7 : Int32)
    q18 σ I J D R x1 x2 v1074
  else
    none
  else none
  else none
  else none
  else none
set_option maxHeartbeats 8000000 in
set_option maxRecDepth 100000 in
theorem wL_law_b555 {G : Gx} {l : Launch} {xs : Nat → Int32} {Lg : Nat} {σ0 : Shp} {σ : Shp} {I : Nat → Nat → Int32} {J : Nat → Nat → Int64} {D : Nat → Nat → UInt64} {R : Nat → Nat → Option Nat} {q18 : (Shp) → (Nat → Nat → Int32) → (Nat → Nat → Int64) → (Nat → Nat → UInt64) → (Nat → Nat → Option Nat) → (Option Nat) → (Option Nat) → (Int32) → (Option (Unit))} {x1 : Option Nat} {x2 : Option Nat} {x3 : Int32} (hq18 : ∀ (σ : Shp) (I : Nat → Nat → Int32) (J : Nat → Nat → Int64) (D : Nat → Nat → UInt64) (R : Nat → Nat → Option Nat) (x1 : Option Nat) (x2 : Option Nat) (x3 : Int32), q18 σ I J D R x1 x2 x3 = some () → WLaw G l xs Lg σ0 (σ, I, J, D, R) 18 [(0, vR (some 3)), (1, vR x1), (2, vR x2), (3, vI x3)] []) (h : fL_law_b555 q18 xs Lg σ I J D R x1 x2 x3 = some ()) : WLaw G l xs Lg σ0 (σ, I, J, D, R) 555 [(0, vR (some 3)), (1, vR x1), (2, vR x2), (3, vI x3)] [] := by
  unfold fL_law_b555 at h
  refine r_aload_n (pc := 555) dL_law_555 rfl 1 rfl ?_
  refine r_aload_n (pc := 556) dL_law_556 rfl 0 rfl ?_
  refine r_iload_n (pc := 557) dL_law_557 rfl 3 rfl ?_
  refine r_iconst (pc := 558) dL_law_558 kc_iconst_1 ?_
  refine r_iadd (pc := 559) dL_law_559 ?_
  obtain ⟨g1064, h⟩ := gd h
  refine r_scld (pc := 560) dL_law_560 g1064 ?_
  refine r_aload_n (pc := 561) dL_law_561 rfl 0 rfl ?_
  refine r_iload_n (pc := 562) dL_law_562 rfl 3 rfl ?_
  refine r_iconst (pc := 563) dL_law_563 kc_iconst_2 ?_
  refine r_iadd (pc := 564) dL_law_564 ?_
  obtain ⟨g1065, h⟩ := gd h
  refine r_scld (pc := 565) dL_law_565 g1065 ?_
  obtain ⟨a1066, ha1066, h⟩ := ob h
  refine r_ref2 ha1066 ?_
  obtain ⟨g1067, h⟩ := gd h
  obtain ⟨r1068, hc1069, h⟩ := ob h
  refine r_callV1 (pc := 566) (av := [vI (xs (Int32.toNatClampNeg (x3 + (1 : Int32)))), vI (xs (Int32.toNatClampNeg (x3 + (2 : Int32))))]) (S := []) dL_law_566 (kX11_is hc1069) g1067 rfl mkL_37 mwX11_is rfl ⟨Nat.le_of_ble_eq_true rfl, Nat.le_of_ble_eq_true rfl⟩ (Nat.le_of_ble_eq_true rfl) ⟨Nat.le_refl _, Nat.le_refl _⟩ (fun b => b) ?_
  refine r_aload_n (pc := 569) dL_law_569 rfl 2 rfl ?_
  refine r_aload_n (pc := 570) dL_law_570 rfl 0 rfl ?_
  refine r_iload_n (pc := 571) dL_law_571 rfl 3 rfl ?_
  refine r_iconst (pc := 572) dL_law_572 kc_iconst_1 ?_
  refine r_iadd (pc := 573) dL_law_573 ?_
  refine r_scld (pc := 574) dL_law_574 g1064 ?_
  refine r_aload_n (pc := 575) dL_law_575 rfl 0 rfl ?_
  refine r_iload_n (pc := 576) dL_law_576 rfl 3 rfl ?_
  refine r_iconst (pc := 577) dL_law_577 kc_iconst_2 ?_
  refine r_iadd (pc := 578) dL_law_578 ?_
  refine r_scld (pc := 579) dL_law_579 g1065 ?_
  obtain ⟨a1070, ha1070, h⟩ := ob h
  refine r_ref2 ha1070 ?_
  obtain ⟨g1071, h⟩ := gd h
  obtain ⟨r1072, hc1073, h⟩ := ob h
  refine r_callV1 (pc := 580) (av := [vI (xs (Int32.toNatClampNeg (x3 + (1 : Int32)))), vI (xs (Int32.toNatClampNeg (x3 + (2 : Int32))))]) (S := [vI r1068]) dL_law_580 (kX12_is hc1073) g1071 rfl mkL_40 mwX12_is rfl ⟨Nat.le_of_ble_eq_true rfl, Nat.le_of_ble_eq_true rfl⟩ (Nat.le_of_ble_eq_true rfl) ⟨Nat.le_refl _, Nat.le_refl _⟩ (fun b => b) ?_
  refine r_icmp_eq (pc := 583) (tgt := 3270) dL_law_583 rfl (fun c => ?_) (fun c => ?_)
  · have h := it h c
    refine r_iinc (pc := 3270) (v := (x3 + (7 : Int32))) (L' := [(3, vI (x3 + (7 : Int32))), (0, vR (some 3)), (1, vR x1), (2, vR x2)]) dL_law_3270 3 rfl (kc_inc_7 _) (by decide) rfl ?_
    refine r_goto (pc := 3273) (tgt := 18) dL_law_3273 rfl ?_
    refine r_sub [1, 2, 3, 0] rfl ?_
    exact hq18 _ _ _ _ _ _ _ _ h
  · have h := ie h c
    refine r_iconst (pc := 586) dL_law_586 kc_iconst_0 ?_
    cases h
def fL_law_b532 (q18 : (Shp) → (Nat → Nat → Int32) → (Nat → Nat → Int64) → (Nat → Nat → UInt64) → (Nat → Nat → Option Nat) → (Option Nat) → (Option Nat) → (Int32) → (Option (Unit))) (xs : Nat → Int32) (Lg : Nat) (σ : Shp) (I : Nat → Nat → Int32) (J : Nat → Nat → Int64) (D : Nat → Nat → UInt64) (R : Nat → Nat → Option Nat) (x1 : Option Nat) (x2 : Option Nat) (x3 : Int32) : Option Unit :=
  if ¬ ((x3 + (1 : Int32)) < 0 ∨ Lg ≤ Int32.toNatClampNeg (x3 + (1 : Int32))) then
  (x1 : Option Nat).bind fun a1076 =>
  if kdx σ a1076 = 12 then
  (fX11_form σ I R a1076 (xs (Int32.toNatClampNeg (x3 + (1 : Int32))))).bind fun r1078 =>
  (x2 : Option Nat).bind fun a1080 =>
  if kdx σ a1080 = 13 then
  (fX12_form σ I R a1080 (xs (Int32.toNatClampNeg (x3 + (1 : Int32))))).bind fun r1082 =>
  if r1078 = r1082 then
    let v1084 := x3 + (7 : Int32)
    q18 σ I J D R x1 x2 v1084
  else
    none
  else none
  else none
  else none
set_option maxHeartbeats 8000000 in
set_option maxRecDepth 100000 in
theorem wL_law_b532 {G : Gx} {l : Launch} {xs : Nat → Int32} {Lg : Nat} {σ0 : Shp} {σ : Shp} {I : Nat → Nat → Int32} {J : Nat → Nat → Int64} {D : Nat → Nat → UInt64} {R : Nat → Nat → Option Nat} {q18 : (Shp) → (Nat → Nat → Int32) → (Nat → Nat → Int64) → (Nat → Nat → UInt64) → (Nat → Nat → Option Nat) → (Option Nat) → (Option Nat) → (Int32) → (Option (Unit))} {x1 : Option Nat} {x2 : Option Nat} {x3 : Int32} (hq18 : ∀ (σ : Shp) (I : Nat → Nat → Int32) (J : Nat → Nat → Int64) (D : Nat → Nat → UInt64) (R : Nat → Nat → Option Nat) (x1 : Option Nat) (x2 : Option Nat) (x3 : Int32), q18 σ I J D R x1 x2 x3 = some () → WLaw G l xs Lg σ0 (σ, I, J, D, R) 18 [(0, vR (some 3)), (1, vR x1), (2, vR x2), (3, vI x3)] []) (h : fL_law_b532 q18 xs Lg σ I J D R x1 x2 x3 = some ()) : WLaw G l xs Lg σ0 (σ, I, J, D, R) 532 [(0, vR (some 3)), (1, vR x1), (2, vR x2), (3, vI x3)] [] := by
  unfold fL_law_b532 at h
  refine r_aload_n (pc := 532) dL_law_532 rfl 1 rfl ?_
  refine r_aload_n (pc := 533) dL_law_533 rfl 0 rfl ?_
  refine r_iload_n (pc := 534) dL_law_534 rfl 3 rfl ?_
  refine r_iconst (pc := 535) dL_law_535 kc_iconst_1 ?_
  refine r_iadd (pc := 536) dL_law_536 ?_
  obtain ⟨g1075, h⟩ := gd h
  refine r_scld (pc := 537) dL_law_537 g1075 ?_
  obtain ⟨a1076, ha1076, h⟩ := ob h
  refine r_ref1 ha1076 ?_
  obtain ⟨g1077, h⟩ := gd h
  obtain ⟨r1078, hc1079, h⟩ := ob h
  refine r_callV1 (pc := 538) (av := [vI (xs (Int32.toNatClampNeg (x3 + (1 : Int32))))]) (S := []) dL_law_538 (kX11_form hc1079) g1077 rfl mkL_32 mwX11_form rfl ⟨Nat.le_of_ble_eq_true rfl, Nat.le_of_ble_eq_true rfl⟩ (Nat.le_of_ble_eq_true rfl) ⟨Nat.le_refl _, Nat.le_refl _⟩ (fun b => b) ?_
  refine r_aload_n (pc := 541) dL_law_541 rfl 2 rfl ?_
  refine r_aload_n (pc := 542) dL_law_542 rfl 0 rfl ?_
  refine r_iload_n (pc := 543) dL_law_543 rfl 3 rfl ?_
  refine r_iconst (pc := 544) dL_law_544 kc_iconst_1 ?_
  refine r_iadd (pc := 545) dL_law_545 ?_
  refine r_scld (pc := 546) dL_law_546 g1075 ?_
  obtain ⟨a1080, ha1080, h⟩ := ob h
  refine r_ref1 ha1080 ?_
  obtain ⟨g1081, h⟩ := gd h
  obtain ⟨r1082, hc1083, h⟩ := ob h
  refine r_callV1 (pc := 547) (av := [vI (xs (Int32.toNatClampNeg (x3 + (1 : Int32))))]) (S := [vI r1078]) dL_law_547 (kX12_form hc1083) g1081 rfl mkL_36 mwX12_form rfl ⟨Nat.le_of_ble_eq_true rfl, Nat.le_of_ble_eq_true rfl⟩ (Nat.le_of_ble_eq_true rfl) ⟨Nat.le_refl _, Nat.le_refl _⟩ (fun b => b) ?_
  refine r_icmp_eq (pc := 550) (tgt := 3270) dL_law_550 rfl (fun c => ?_) (fun c => ?_)
  · have h := it h c
    refine r_iinc (pc := 3270) (v := (x3 + (7 : Int32))) (L' := [(3, vI (x3 + (7 : Int32))), (0, vR (some 3)), (1, vR x1), (2, vR x2)]) dL_law_3270 3 rfl (kc_inc_7 _) (by decide) rfl ?_
    refine r_goto (pc := 3273) (tgt := 18) dL_law_3273 rfl ?_
    refine r_sub [1, 2, 3, 0] rfl ?_
    exact hq18 _ _ _ _ _ _ _ _ h
  · have h := ie h c
    refine r_iconst (pc := 553) dL_law_553 kc_iconst_0 ?_
    cases h
def fL_law_b499 (q18 : (Shp) → (Nat → Nat → Int32) → (Nat → Nat → Int64) → (Nat → Nat → UInt64) → (Nat → Nat → Option Nat) → (Option Nat) → (Option Nat) → (Int32) → (Option (Unit))) (xs : Nat → Int32) (Lg : Nat) (σ : Shp) (I : Nat → Nat → Int32) (J : Nat → Nat → Int64) (D : Nat → Nat → UInt64) (R : Nat → Nat → Option Nat) (x1 : Option Nat) (x2 : Option Nat) (x3 : Int32) : Option Unit :=
  if ¬ ((x3 + (1 : Int32)) < 0 ∨ Lg ≤ Int32.toNatClampNeg (x3 + (1 : Int32))) then
  if ¬ ((x3 + (2 : Int32)) < 0 ∨ Lg ≤ Int32.toNatClampNeg (x3 + (2 : Int32))) then
  (x1 : Option Nat).bind fun a1087 =>
  if kdx σ a1087 = 12 then
  (fX11_share σ R a1087 (xs (Int32.toNatClampNeg (x3 + (1 : Int32)))) (xs (Int32.toNatClampNeg (x3 + (2 : Int32))))).bind fun (R1089, r1090) =>
  (x2 : Option Nat).bind fun a1092 =>
  if kdx σ a1092 = 13 then
  (fX12_share σ I R1089 a1092 (xs (Int32.toNatClampNeg (x3 + (1 : Int32)))) (xs (Int32.toNatClampNeg (x3 + (2 : Int32))))).bind fun (I1094, r1095) =>
  if r1090 = r1095 then
    let v1097 := x3 + (7 : Int32)
    q18 σ I1094 J D R1089 x1 x2 v1097
  else
    none
  else none
  else none
  else none
  else none
set_option maxHeartbeats 8000000 in
set_option maxRecDepth 100000 in
theorem wL_law_b499 {G : Gx} {l : Launch} {xs : Nat → Int32} {Lg : Nat} {σ0 : Shp} {σ : Shp} {I : Nat → Nat → Int32} {J : Nat → Nat → Int64} {D : Nat → Nat → UInt64} {R : Nat → Nat → Option Nat} {q18 : (Shp) → (Nat → Nat → Int32) → (Nat → Nat → Int64) → (Nat → Nat → UInt64) → (Nat → Nat → Option Nat) → (Option Nat) → (Option Nat) → (Int32) → (Option (Unit))} {x1 : Option Nat} {x2 : Option Nat} {x3 : Int32} (hq18 : ∀ (σ : Shp) (I : Nat → Nat → Int32) (J : Nat → Nat → Int64) (D : Nat → Nat → UInt64) (R : Nat → Nat → Option Nat) (x1 : Option Nat) (x2 : Option Nat) (x3 : Int32), q18 σ I J D R x1 x2 x3 = some () → WLaw G l xs Lg σ0 (σ, I, J, D, R) 18 [(0, vR (some 3)), (1, vR x1), (2, vR x2), (3, vI x3)] []) (h : fL_law_b499 q18 xs Lg σ I J D R x1 x2 x3 = some ()) : WLaw G l xs Lg σ0 (σ, I, J, D, R) 499 [(0, vR (some 3)), (1, vR x1), (2, vR x2), (3, vI x3)] [] := by
  unfold fL_law_b499 at h
  refine r_aload_n (pc := 499) dL_law_499 rfl 1 rfl ?_
  refine r_aload_n (pc := 500) dL_law_500 rfl 0 rfl ?_
  refine r_iload_n (pc := 501) dL_law_501 rfl 3 rfl ?_
  refine r_iconst (pc := 502) dL_law_502 kc_iconst_1 ?_
  refine r_iadd (pc := 503) dL_law_503 ?_
  obtain ⟨g1085, h⟩ := gd h
  refine r_scld (pc := 504) dL_law_504 g1085 ?_
  refine r_aload_n (pc := 505) dL_law_505 rfl 0 rfl ?_
  refine r_iload_n (pc := 506) dL_law_506 rfl 3 rfl ?_
  refine r_iconst (pc := 507) dL_law_507 kc_iconst_2 ?_
  refine r_iadd (pc := 508) dL_law_508 ?_
  obtain ⟨g1086, h⟩ := gd h
  refine r_scld (pc := 509) dL_law_509 g1086 ?_
  obtain ⟨a1087, ha1087, h⟩ := ob h
  refine r_ref2 ha1087 ?_
  obtain ⟨g1088, h⟩ := gd h
  obtain ⟨⟨R1089, r1090⟩, hc1091, h⟩ := ob h
  refine r_callV1 (pc := 510) (av := [vI (xs (Int32.toNatClampNeg (x3 + (1 : Int32)))), vI (xs (Int32.toNatClampNeg (x3 + (2 : Int32))))]) (S := []) dL_law_510 (kX11_share hc1091) g1088 rfl mkL_28 mwX11_share rfl ⟨Nat.le_of_ble_eq_true rfl, Nat.le_of_ble_eq_true rfl⟩ (Nat.le_of_ble_eq_true rfl) ⟨Nat.le_refl _, Nat.le_refl _⟩ (fun b => b) ?_
  refine r_aload_n (pc := 513) dL_law_513 rfl 2 rfl ?_
  refine r_aload_n (pc := 514) dL_law_514 rfl 0 rfl ?_
  refine r_iload_n (pc := 515) dL_law_515 rfl 3 rfl ?_
  refine r_iconst (pc := 516) dL_law_516 kc_iconst_1 ?_
  refine r_iadd (pc := 517) dL_law_517 ?_
  refine r_scld (pc := 518) dL_law_518 g1085 ?_
  refine r_aload_n (pc := 519) dL_law_519 rfl 0 rfl ?_
  refine r_iload_n (pc := 520) dL_law_520 rfl 3 rfl ?_
  refine r_iconst (pc := 521) dL_law_521 kc_iconst_2 ?_
  refine r_iadd (pc := 522) dL_law_522 ?_
  refine r_scld (pc := 523) dL_law_523 g1086 ?_
  obtain ⟨a1092, ha1092, h⟩ := ob h
  refine r_ref2 ha1092 ?_
  obtain ⟨g1093, h⟩ := gd h
  obtain ⟨⟨I1094, r1095⟩, hc1096, h⟩ := ob h
  refine r_callV1 (pc := 524) (av := [vI (xs (Int32.toNatClampNeg (x3 + (1 : Int32)))), vI (xs (Int32.toNatClampNeg (x3 + (2 : Int32))))]) (S := [vI r1090]) dL_law_524 (kX12_share hc1096) g1093 rfl mkL_31 mwX12_share rfl ⟨Nat.le_of_ble_eq_true rfl, Nat.le_of_ble_eq_true rfl⟩ (Nat.le_of_ble_eq_true rfl) ⟨Nat.le_refl _, Nat.le_refl _⟩ (fun b => b) ?_
  refine r_icmp_eq (pc := 527) (tgt := 3270) dL_law_527 rfl (fun c => ?_) (fun c => ?_)
  · have h := it h c
    refine r_iinc (pc := 3270) (v := (x3 + (7 : Int32))) (L' := [(3, vI (x3 + (7 : Int32))), (0, vR (some 3)), (1, vR x1), (2, vR x2)]) dL_law_3270 3 rfl (kc_inc_7 _) (by decide) rfl ?_
    refine r_goto (pc := 3273) (tgt := 18) dL_law_3273 rfl ?_
    refine r_sub [1, 2, 3, 0] rfl ?_
    exact hq18 _ _ _ _ _ _ _ _ h
  · have h := ie h c
    refine r_iconst (pc := 530) dL_law_530 kc_iconst_0 ?_
    cases h
def fL_law_b466 (q18 : (Shp) → (Nat → Nat → Int32) → (Nat → Nat → Int64) → (Nat → Nat → UInt64) → (Nat → Nat → Option Nat) → (Option Nat) → (Option Nat) → (Int32) → (Option (Unit))) (xs : Nat → Int32) (Lg : Nat) (σ : Shp) (I : Nat → Nat → Int32) (J : Nat → Nat → Int64) (D : Nat → Nat → UInt64) (R : Nat → Nat → Option Nat) (x1 : Option Nat) (x2 : Option Nat) (x3 : Int32) : Option Unit :=
  if ¬ ((x3 + (1 : Int32)) < 0 ∨ Lg ≤ Int32.toNatClampNeg (x3 + (1 : Int32))) then
  if ¬ ((x3 + (2 : Int32)) < 0 ∨ Lg ≤ Int32.toNatClampNeg (x3 + (2 : Int32))) then
  (x1 : Option Nat).bind fun a1100 =>
  if kdx σ a1100 = 12 then
  (fX11_storeys σ I R a1100 (xs (Int32.toNatClampNeg (x3 + (1 : Int32)))) (xs (Int32.toNatClampNeg (x3 + (2 : Int32))))).bind fun (σ1102, I1103, R1104, r1105) =>
  if nxx σ1102 ≤ 600000 ∧ slx σ1102 ≤ 7300000 then
  (x2 : Option Nat).bind fun a1108 =>
  if kdx σ1102 a1108 = 13 then
  (fX12_storeys σ1102 I1103 R1104 a1108 (xs (Int32.toNatClampNeg (x3 + (1 : Int32)))) (xs (Int32.toNatClampNeg (x3 + (2 : Int32))))).bind fun (I1110, r1111) =>
  if r1105 = r1111 then
    let v1113 := x3 + (7 : Int32)
    q18 σ1102 I1110 J D R1104 x1 x2 v1113
  else
    none
  else none
  else none
  else none
  else none
  else none
set_option maxHeartbeats 8000000 in
set_option maxRecDepth 100000 in
theorem wL_law_b466 {G : Gx} {l : Launch} {xs : Nat → Int32} {Lg : Nat} {σ0 : Shp} {σ : Shp} {I : Nat → Nat → Int32} {J : Nat → Nat → Int64} {D : Nat → Nat → UInt64} {R : Nat → Nat → Option Nat} {q18 : (Shp) → (Nat → Nat → Int32) → (Nat → Nat → Int64) → (Nat → Nat → UInt64) → (Nat → Nat → Option Nat) → (Option Nat) → (Option Nat) → (Int32) → (Option (Unit))} {x1 : Option Nat} {x2 : Option Nat} {x3 : Int32} (hq18 : ∀ (σ : Shp) (I : Nat → Nat → Int32) (J : Nat → Nat → Int64) (D : Nat → Nat → UInt64) (R : Nat → Nat → Option Nat) (x1 : Option Nat) (x2 : Option Nat) (x3 : Int32), q18 σ I J D R x1 x2 x3 = some () → WLaw G l xs Lg σ0 (σ, I, J, D, R) 18 [(0, vR (some 3)), (1, vR x1), (2, vR x2), (3, vI x3)] []) (h : fL_law_b466 q18 xs Lg σ I J D R x1 x2 x3 = some ()) : WLaw G l xs Lg σ0 (σ, I, J, D, R) 466 [(0, vR (some 3)), (1, vR x1), (2, vR x2), (3, vI x3)] [] := by
  unfold fL_law_b466 at h
  refine r_aload_n (pc := 466) dL_law_466 rfl 1 rfl ?_
  refine r_aload_n (pc := 467) dL_law_467 rfl 0 rfl ?_
  refine r_iload_n (pc := 468) dL_law_468 rfl 3 rfl ?_
  refine r_iconst (pc := 469) dL_law_469 kc_iconst_1 ?_
  refine r_iadd (pc := 470) dL_law_470 ?_
  obtain ⟨g1098, h⟩ := gd h
  refine r_scld (pc := 471) dL_law_471 g1098 ?_
  refine r_aload_n (pc := 472) dL_law_472 rfl 0 rfl ?_
  refine r_iload_n (pc := 473) dL_law_473 rfl 3 rfl ?_
  refine r_iconst (pc := 474) dL_law_474 kc_iconst_2 ?_
  refine r_iadd (pc := 475) dL_law_475 ?_
  obtain ⟨g1099, h⟩ := gd h
  refine r_scld (pc := 476) dL_law_476 g1099 ?_
  obtain ⟨a1100, ha1100, h⟩ := ob h
  refine r_ref2 ha1100 ?_
  obtain ⟨g1101, h⟩ := gd h
  obtain ⟨⟨σ1102, I1103, R1104, r1105⟩, hc1106, h⟩ := ob h
  obtain ⟨g1107, h⟩ := gd h
  refine r_callV1 (pc := 477) (av := [vI (xs (Int32.toNatClampNeg (x3 + (1 : Int32)))), vI (xs (Int32.toNatClampNeg (x3 + (2 : Int32))))]) (S := []) dL_law_477 (kX11_storeys hc1106) g1101 rfl mkL_23 mwX11_storeys rfl ⟨Nat.le_of_ble_eq_true rfl, Nat.le_of_ble_eq_true rfl⟩ (Nat.le_of_ble_eq_true rfl) (mX11_storeys hc1106) (bdL (mX11_storeys hc1106) g1107) ?_
  refine r_aload_n (pc := 480) dL_law_480 rfl 2 rfl ?_
  refine r_aload_n (pc := 481) dL_law_481 rfl 0 rfl ?_
  refine r_iload_n (pc := 482) dL_law_482 rfl 3 rfl ?_
  refine r_iconst (pc := 483) dL_law_483 kc_iconst_1 ?_
  refine r_iadd (pc := 484) dL_law_484 ?_
  refine r_scld (pc := 485) dL_law_485 g1098 ?_
  refine r_aload_n (pc := 486) dL_law_486 rfl 0 rfl ?_
  refine r_iload_n (pc := 487) dL_law_487 rfl 3 rfl ?_
  refine r_iconst (pc := 488) dL_law_488 kc_iconst_2 ?_
  refine r_iadd (pc := 489) dL_law_489 ?_
  refine r_scld (pc := 490) dL_law_490 g1099 ?_
  obtain ⟨a1108, ha1108, h⟩ := ob h
  refine r_ref2 ha1108 ?_
  obtain ⟨g1109, h⟩ := gd h
  obtain ⟨⟨I1110, r1111⟩, hc1112, h⟩ := ob h
  refine r_callV1 (pc := 491) (av := [vI (xs (Int32.toNatClampNeg (x3 + (1 : Int32)))), vI (xs (Int32.toNatClampNeg (x3 + (2 : Int32))))]) (S := [vI r1105]) dL_law_491 (kX12_storeys hc1112) g1109 rfl mkL_27 mwX12_storeys rfl ⟨Nat.le_of_ble_eq_true rfl, Nat.le_of_ble_eq_true rfl⟩ (Nat.le_of_ble_eq_true rfl) ⟨Nat.le_refl _, Nat.le_refl _⟩ (fun b => b) ?_
  refine r_icmp_eq (pc := 494) (tgt := 3270) dL_law_494 rfl (fun c => ?_) (fun c => ?_)
  · have h := it h c
    refine r_iinc (pc := 3270) (v := (x3 + (7 : Int32))) (L' := [(3, vI (x3 + (7 : Int32))), (0, vR (some 3)), (1, vR x1), (2, vR x2)]) dL_law_3270 3 rfl (kc_inc_7 _) (by decide) rfl ?_
    refine r_goto (pc := 3273) (tgt := 18) dL_law_3273 rfl ?_
    refine r_sub [1, 2, 3, 0] rfl ?_
    exact hq18 _ _ _ _ _ _ _ _ h
  · have h := ie h c
    refine r_iconst (pc := 497) dL_law_497 kc_iconst_0 ?_
    cases h
def fL_law_b387 (q18 : (Shp) → (Nat → Nat → Int32) → (Nat → Nat → Int64) → (Nat → Nat → UInt64) → (Nat → Nat → Option Nat) → (Option Nat) → (Option Nat) → (Int32) → (Option (Unit))) (xs : Nat → Int32) (Lg : Nat) (σ : Shp) (I : Nat → Nat → Int32) (J : Nat → Nat → Int64) (D : Nat → Nat → UInt64) (R : Nat → Nat → Option Nat) (x1 : Option Nat) (x2 : Option Nat) (x3 : Int32) : Option Unit :=
  if ¬ ((x3 + (1 : Int32)) < 0 ∨ Lg ≤ Int32.toNatClampNeg (x3 + (1 : Int32))) then
  if ¬ ((x3 + (2 : Int32)) < 0 ∨ Lg ≤ Int32.toNatClampNeg (x3 + (2 : Int32))) then
  if ¬ ((x3 + (3 : Int32)) < 0 ∨ Lg ≤ Int32.toNatClampNeg (x3 + (3 : Int32))) then
  if ¬ ((x3 + (4 : Int32)) < 0 ∨ Lg ≤ Int32.toNatClampNeg (x3 + (4 : Int32))) then
  if ¬ ((x3 + (5 : Int32)) < 0 ∨ Lg ≤ Int32.toNatClampNeg (x3 + (5 : Int32))) then
  if (xs (Int32.toNatClampNeg (x3 + (5 : Int32)))) = 0 then
    (x1 : Option Nat).bind fun a1119 =>
    if kdx σ a1119 = 12 then
    (fX11_grid σ I R a1119 (xs (Int32.toNatClampNeg (x3 + (1 : Int32)))) (xs (Int32.toNatClampNeg (x3 + (2 : Int32)))) (xs (Int32.toNatClampNeg (x3 + (3 : Int32)))) (xs (Int32.toNatClampNeg (x3 + (4 : Int32)))) (0 : Int32)).bind fun (σ1121, I1122, R1123, r1124) =>
    if nxx σ1121 ≤ 600000 ∧ slx σ1121 ≤ 7300000 then
    if (xs (Int32.toNatClampNeg (x3 + (5 : Int32)))) = 0 then
      (x2 : Option Nat).bind fun a1127 =>
      if kdx σ1121 a1127 = 13 then
      (fX12_grid σ1121 I1122 R1123 a1127 (xs (Int32.toNatClampNeg (x3 + (1 : Int32)))) (xs (Int32.toNatClampNeg (x3 + (2 : Int32)))) (xs (Int32.toNatClampNeg (x3 + (3 : Int32)))) (xs (Int32.toNatClampNeg (x3 + (4 : Int32)))) (0 : Int32)).bind fun (I1129, r1130) =>
      if r1124 = r1130 then
        let v1132 := x3 + (7 : Int32)
        q18 σ1121 I1129 J D R1123 x1 x2 v1132
      else
        none
      else none
    else
      (x2 : Option Nat).bind fun a1133 =>
      if kdx σ1121 a1133 = 13 then
      (fX12_grid σ1121 I1122 R1123 a1133 (xs (Int32.toNatClampNeg (x3 + (1 : Int32)))) (xs (Int32.toNatClampNeg (x3 + (2 : Int32)))) (xs (Int32.toNatClampNeg (x3 + (3 : Int32)))) (xs (Int32.toNatClampNeg (x3 + (4 : Int32)))) (1 : Int32)).bind fun (I1135, r1136) =>
      if r1124 = r1136 then
        let v1138 := x3 + (7 : Int32)
        q18 σ1121 I1135 J D R1123 x1 x2 v1138
      else
        none
      else none
    else none
    else none
  else
    (x1 : Option Nat).bind fun a1139 =>
    if kdx σ a1139 = 12 then
    (fX11_grid σ I R a1139 (xs (Int32.toNatClampNeg (x3 + (1 : Int32)))) (xs (Int32.toNatClampNeg (x3 + (2 : Int32)))) (xs (Int32.toNatClampNeg (x3 + (3 : Int32)))) (xs (Int32.toNatClampNeg (x3 + (4 : Int32)))) (1 : Int32)).bind fun (σ1141, I1142, R1143, r1144) =>
    if nxx σ1141 ≤ 600000 ∧ slx σ1141 ≤ 7300000 then
    if (xs (Int32.toNatClampNeg (x3 + (5 : Int32)))) = 0 then
      (x2 : Option Nat).bind fun a1147 =>
      if kdx σ1141 a1147 = 13 then
      (fX12_grid σ1141 I1142 R1143 a1147 (xs (Int32.toNatClampNeg (x3 + (1 : Int32)))) (xs (Int32.toNatClampNeg (x3 + (2 : Int32)))) (xs (Int32.toNatClampNeg (x3 + (3 : Int32)))) (xs (Int32.toNatClampNeg (x3 + (4 : Int32)))) (0 : Int32)).bind fun (I1149, r1150) =>
      if r1144 = r1150 then
        let v1152 := x3 + (7 : Int32)
        q18 σ1141 I1149 J D R1143 x1 x2 v1152
      else
        none
      else none
    else
      (x2 : Option Nat).bind fun a1153 =>
      if kdx σ1141 a1153 = 13 then
      (fX12_grid σ1141 I1142 R1143 a1153 (xs (Int32.toNatClampNeg (x3 + (1 : Int32)))) (xs (Int32.toNatClampNeg (x3 + (2 : Int32)))) (xs (Int32.toNatClampNeg (x3 + (3 : Int32)))) (xs (Int32.toNatClampNeg (x3 + (4 : Int32)))) (1 : Int32)).bind fun (I1155, r1156) =>
      if r1144 = r1156 then
        let v1158 := x3 + (7 : Int32)
        q18 σ1141 I1155 J D R1143 x1 x2 v1158
      else
        none
      else none
    else none
    else none
  else none
  else none
  else none
  else none
  else none
set_option maxHeartbeats 8000000 in
set_option maxRecDepth 100000 in
theorem wL_law_b387 {G : Gx} {l : Launch} {xs : Nat → Int32} {Lg : Nat} {σ0 : Shp} {σ : Shp} {I : Nat → Nat → Int32} {J : Nat → Nat → Int64} {D : Nat → Nat → UInt64} {R : Nat → Nat → Option Nat} {q18 : (Shp) → (Nat → Nat → Int32) → (Nat → Nat → Int64) → (Nat → Nat → UInt64) → (Nat → Nat → Option Nat) → (Option Nat) → (Option Nat) → (Int32) → (Option (Unit))} {x1 : Option Nat} {x2 : Option Nat} {x3 : Int32} (hq18 : ∀ (σ : Shp) (I : Nat → Nat → Int32) (J : Nat → Nat → Int64) (D : Nat → Nat → UInt64) (R : Nat → Nat → Option Nat) (x1 : Option Nat) (x2 : Option Nat) (x3 : Int32), q18 σ I J D R x1 x2 x3 = some () → WLaw G l xs Lg σ0 (σ, I, J, D, R) 18 [(0, vR (some 3)), (1, vR x1), (2, vR x2), (3, vI x3)] []) (h : fL_law_b387 q18 xs Lg σ I J D R x1 x2 x3 = some ()) : WLaw G l xs Lg σ0 (σ, I, J, D, R) 387 [(0, vR (some 3)), (1, vR x1), (2, vR x2), (3, vI x3)] [] := by
  unfold fL_law_b387 at h
  refine r_aload_n (pc := 387) dL_law_387 rfl 1 rfl ?_
  refine r_aload_n (pc := 388) dL_law_388 rfl 0 rfl ?_
  refine r_iload_n (pc := 389) dL_law_389 rfl 3 rfl ?_
  refine r_iconst (pc := 390) dL_law_390 kc_iconst_1 ?_
  refine r_iadd (pc := 391) dL_law_391 ?_
  obtain ⟨g1114, h⟩ := gd h
  refine r_scld (pc := 392) dL_law_392 g1114 ?_
  refine r_aload_n (pc := 393) dL_law_393 rfl 0 rfl ?_
  refine r_iload_n (pc := 394) dL_law_394 rfl 3 rfl ?_
  refine r_iconst (pc := 395) dL_law_395 kc_iconst_2 ?_
  refine r_iadd (pc := 396) dL_law_396 ?_
  obtain ⟨g1115, h⟩ := gd h
  refine r_scld (pc := 397) dL_law_397 g1115 ?_
  refine r_aload_n (pc := 398) dL_law_398 rfl 0 rfl ?_
  refine r_iload_n (pc := 399) dL_law_399 rfl 3 rfl ?_
  refine r_iconst (pc := 400) dL_law_400 kc_iconst_3 ?_
  refine r_iadd (pc := 401) dL_law_401 ?_
  obtain ⟨g1116, h⟩ := gd h
  refine r_scld (pc := 402) dL_law_402 g1116 ?_
  refine r_aload_n (pc := 403) dL_law_403 rfl 0 rfl ?_
  refine r_iload_n (pc := 404) dL_law_404 rfl 3 rfl ?_
  refine r_iconst (pc := 405) dL_law_405 kc_iconst_4 ?_
  refine r_iadd (pc := 406) dL_law_406 ?_
  obtain ⟨g1117, h⟩ := gd h
  refine r_scld (pc := 407) dL_law_407 g1117 ?_
  refine r_aload_n (pc := 408) dL_law_408 rfl 0 rfl ?_
  refine r_iload_n (pc := 409) dL_law_409 rfl 3 rfl ?_
  refine r_iconst (pc := 410) dL_law_410 kc_iconst_5 ?_
  refine r_iadd (pc := 411) dL_law_411 ?_
  obtain ⟨g1118, h⟩ := gd h
  refine r_scld (pc := 412) dL_law_412 g1118 ?_
  refine r_if_eq (pc := 413) (tgt := 420) dL_law_413 rfl (fun c => ?_) (fun c => ?_)
  · have h := it h c
    refine r_iconst (pc := 420) dL_law_420 kc_iconst_0 ?_
    obtain ⟨a1119, ha1119, h⟩ := ob h
    refine r_ref5 ha1119 ?_
    obtain ⟨g1120, h⟩ := gd h
    obtain ⟨⟨σ1121, I1122, R1123, r1124⟩, hc1125, h⟩ := ob h
    obtain ⟨g1126, h⟩ := gd h
    refine r_callV1 (pc := 421) (av := [vI (xs (Int32.toNatClampNeg (x3 + (1 : Int32)))), vI (xs (Int32.toNatClampNeg (x3 + (2 : Int32)))), vI (xs (Int32.toNatClampNeg (x3 + (3 : Int32)))), vI (xs (Int32.toNatClampNeg (x3 + (4 : Int32)))), vI (0 : Int32)]) (S := []) dL_law_421 (kX11_grid hc1125) g1120 rfl mkL_18 mwX11_grid rfl ⟨Nat.le_of_ble_eq_true rfl, Nat.le_of_ble_eq_true rfl⟩ (Nat.le_of_ble_eq_true rfl) (mX11_grid hc1125) (bdL (mX11_grid hc1125) g1126) ?_
    refine r_aload_n (pc := 424) dL_law_424 rfl 2 rfl ?_
    refine r_aload_n (pc := 425) dL_law_425 rfl 0 rfl ?_
    refine r_iload_n (pc := 426) dL_law_426 rfl 3 rfl ?_
    refine r_iconst (pc := 427) dL_law_427 kc_iconst_1 ?_
    refine r_iadd (pc := 428) dL_law_428 ?_
    refine r_scld (pc := 429) dL_law_429 g1114 ?_
    refine r_aload_n (pc := 430) dL_law_430 rfl 0 rfl ?_
    refine r_iload_n (pc := 431) dL_law_431 rfl 3 rfl ?_
    refine r_iconst (pc := 432) dL_law_432 kc_iconst_2 ?_
    refine r_iadd (pc := 433) dL_law_433 ?_
    refine r_scld (pc := 434) dL_law_434 g1115 ?_
    refine r_aload_n (pc := 435) dL_law_435 rfl 0 rfl ?_
    refine r_iload_n (pc := 436) dL_law_436 rfl 3 rfl ?_
    refine r_iconst (pc := 437) dL_law_437 kc_iconst_3 ?_
    refine r_iadd (pc := 438) dL_law_438 ?_
    refine r_scld (pc := 439) dL_law_439 g1116 ?_
    refine r_aload_n (pc := 440) dL_law_440 rfl 0 rfl ?_
    refine r_iload_n (pc := 441) dL_law_441 rfl 3 rfl ?_
    refine r_iconst (pc := 442) dL_law_442 kc_iconst_4 ?_
    refine r_iadd (pc := 443) dL_law_443 ?_
    refine r_scld (pc := 444) dL_law_444 g1117 ?_
    refine r_aload_n (pc := 445) dL_law_445 rfl 0 rfl ?_
    refine r_iload_n (pc := 446) dL_law_446 rfl 3 rfl ?_
    refine r_iconst (pc := 447) dL_law_447 kc_iconst_5 ?_
    refine r_iadd (pc := 448) dL_law_448 ?_
    refine r_scld (pc := 449) dL_law_449 g1118 ?_
    refine r_if_eq (pc := 450) (tgt := 457) dL_law_450 rfl (fun c => ?_) (fun c => ?_)
    · have h := it h c
      refine r_iconst (pc := 457) dL_law_457 kc_iconst_0 ?_
      obtain ⟨a1127, ha1127, h⟩ := ob h
      refine r_ref5 ha1127 ?_
      obtain ⟨g1128, h⟩ := gd h
      obtain ⟨⟨I1129, r1130⟩, hc1131, h⟩ := ob h
      refine r_callV1 (pc := 458) (av := [vI (xs (Int32.toNatClampNeg (x3 + (1 : Int32)))), vI (xs (Int32.toNatClampNeg (x3 + (2 : Int32)))), vI (xs (Int32.toNatClampNeg (x3 + (3 : Int32)))), vI (xs (Int32.toNatClampNeg (x3 + (4 : Int32)))), vI (0 : Int32)]) (S := [vI r1124]) dL_law_458 (kX12_grid hc1131) g1128 rfl mkL_22 mwX12_grid rfl ⟨Nat.le_of_ble_eq_true rfl, Nat.le_of_ble_eq_true rfl⟩ (Nat.le_of_ble_eq_true rfl) ⟨Nat.le_refl _, Nat.le_refl _⟩ (fun b => b) ?_
      refine r_icmp_eq (pc := 461) (tgt := 3270) dL_law_461 rfl (fun c => ?_) (fun c => ?_)
      · have h := it h c
        refine r_iinc (pc := 3270) (v := (x3 + (7 : Int32))) (L' := [(3, vI (x3 + (7 : Int32))), (0, vR (some 3)), (1, vR x1), (2, vR x2)]) dL_law_3270 3 rfl (kc_inc_7 _) (by decide) rfl ?_
        refine r_goto (pc := 3273) (tgt := 18) dL_law_3273 rfl ?_
        refine r_sub [1, 2, 3, 0] rfl ?_
        exact hq18 _ _ _ _ _ _ _ _ h
      · have h := ie h c
        refine r_iconst (pc := 464) dL_law_464 kc_iconst_0 ?_
        cases h
    · have h := ie h c
      refine r_iconst (pc := 453) dL_law_453 kc_iconst_1 ?_
      refine r_goto (pc := 454) (tgt := 458) dL_law_454 rfl ?_
      obtain ⟨a1133, ha1133, h⟩ := ob h
      refine r_ref5 ha1133 ?_
      obtain ⟨g1134, h⟩ := gd h
      obtain ⟨⟨I1135, r1136⟩, hc1137, h⟩ := ob h
      refine r_callV1 (pc := 458) (av := [vI (xs (Int32.toNatClampNeg (x3 + (1 : Int32)))), vI (xs (Int32.toNatClampNeg (x3 + (2 : Int32)))), vI (xs (Int32.toNatClampNeg (x3 + (3 : Int32)))), vI (xs (Int32.toNatClampNeg (x3 + (4 : Int32)))), vI (1 : Int32)]) (S := [vI r1124]) dL_law_458 (kX12_grid hc1137) g1134 rfl mkL_22 mwX12_grid rfl ⟨Nat.le_of_ble_eq_true rfl, Nat.le_of_ble_eq_true rfl⟩ (Nat.le_of_ble_eq_true rfl) ⟨Nat.le_refl _, Nat.le_refl _⟩ (fun b => b) ?_
      refine r_icmp_eq (pc := 461) (tgt := 3270) dL_law_461 rfl (fun c => ?_) (fun c => ?_)
      · have h := it h c
        refine r_iinc (pc := 3270) (v := (x3 + (7 : Int32))) (L' := [(3, vI (x3 + (7 : Int32))), (0, vR (some 3)), (1, vR x1), (2, vR x2)]) dL_law_3270 3 rfl (kc_inc_7 _) (by decide) rfl ?_
        refine r_goto (pc := 3273) (tgt := 18) dL_law_3273 rfl ?_
        refine r_sub [1, 2, 3, 0] rfl ?_
        exact hq18 _ _ _ _ _ _ _ _ h
      · have h := ie h c
        refine r_iconst (pc := 464) dL_law_464 kc_iconst_0 ?_
        cases h
  · have h := ie h c
    refine r_iconst (pc := 416) dL_law_416 kc_iconst_1 ?_
    refine r_goto (pc := 417) (tgt := 421) dL_law_417 rfl ?_
    obtain ⟨a1139, ha1139, h⟩ := ob h
    refine r_ref5 ha1139 ?_
    obtain ⟨g1140, h⟩ := gd h
    obtain ⟨⟨σ1141, I1142, R1143, r1144⟩, hc1145, h⟩ := ob h
    obtain ⟨g1146, h⟩ := gd h
    refine r_callV1 (pc := 421) (av := [vI (xs (Int32.toNatClampNeg (x3 + (1 : Int32)))), vI (xs (Int32.toNatClampNeg (x3 + (2 : Int32)))), vI (xs (Int32.toNatClampNeg (x3 + (3 : Int32)))), vI (xs (Int32.toNatClampNeg (x3 + (4 : Int32)))), vI (1 : Int32)]) (S := []) dL_law_421 (kX11_grid hc1145) g1140 rfl mkL_18 mwX11_grid rfl ⟨Nat.le_of_ble_eq_true rfl, Nat.le_of_ble_eq_true rfl⟩ (Nat.le_of_ble_eq_true rfl) (mX11_grid hc1145) (bdL (mX11_grid hc1145) g1146) ?_
    refine r_aload_n (pc := 424) dL_law_424 rfl 2 rfl ?_
    refine r_aload_n (pc := 425) dL_law_425 rfl 0 rfl ?_
    refine r_iload_n (pc := 426) dL_law_426 rfl 3 rfl ?_
    refine r_iconst (pc := 427) dL_law_427 kc_iconst_1 ?_
    refine r_iadd (pc := 428) dL_law_428 ?_
    refine r_scld (pc := 429) dL_law_429 g1114 ?_
    refine r_aload_n (pc := 430) dL_law_430 rfl 0 rfl ?_
    refine r_iload_n (pc := 431) dL_law_431 rfl 3 rfl ?_
    refine r_iconst (pc := 432) dL_law_432 kc_iconst_2 ?_
    refine r_iadd (pc := 433) dL_law_433 ?_
    refine r_scld (pc := 434) dL_law_434 g1115 ?_
    refine r_aload_n (pc := 435) dL_law_435 rfl 0 rfl ?_
    refine r_iload_n (pc := 436) dL_law_436 rfl 3 rfl ?_
    refine r_iconst (pc := 437) dL_law_437 kc_iconst_3 ?_
    refine r_iadd (pc := 438) dL_law_438 ?_
    refine r_scld (pc := 439) dL_law_439 g1116 ?_
    refine r_aload_n (pc := 440) dL_law_440 rfl 0 rfl ?_
    refine r_iload_n (pc := 441) dL_law_441 rfl 3 rfl ?_
    refine r_iconst (pc := 442) dL_law_442 kc_iconst_4 ?_
    refine r_iadd (pc := 443) dL_law_443 ?_
    refine r_scld (pc := 444) dL_law_444 g1117 ?_
    refine r_aload_n (pc := 445) dL_law_445 rfl 0 rfl ?_
    refine r_iload_n (pc := 446) dL_law_446 rfl 3 rfl ?_
    refine r_iconst (pc := 447) dL_law_447 kc_iconst_5 ?_
    refine r_iadd (pc := 448) dL_law_448 ?_
    refine r_scld (pc := 449) dL_law_449 g1118 ?_
    refine r_if_eq (pc := 450) (tgt := 457) dL_law_450 rfl (fun c => ?_) (fun c => ?_)
    · have h := it h c
      refine r_iconst (pc := 457) dL_law_457 kc_iconst_0 ?_
      obtain ⟨a1147, ha1147, h⟩ := ob h
      refine r_ref5 ha1147 ?_
      obtain ⟨g1148, h⟩ := gd h
      obtain ⟨⟨I1149, r1150⟩, hc1151, h⟩ := ob h
      refine r_callV1 (pc := 458) (av := [vI (xs (Int32.toNatClampNeg (x3 + (1 : Int32)))), vI (xs (Int32.toNatClampNeg (x3 + (2 : Int32)))), vI (xs (Int32.toNatClampNeg (x3 + (3 : Int32)))), vI (xs (Int32.toNatClampNeg (x3 + (4 : Int32)))), vI (0 : Int32)]) (S := [vI r1144]) dL_law_458 (kX12_grid hc1151) g1148 rfl mkL_22 mwX12_grid rfl ⟨Nat.le_of_ble_eq_true rfl, Nat.le_of_ble_eq_true rfl⟩ (Nat.le_of_ble_eq_true rfl) ⟨Nat.le_refl _, Nat.le_refl _⟩ (fun b => b) ?_
      refine r_icmp_eq (pc := 461) (tgt := 3270) dL_law_461 rfl (fun c => ?_) (fun c => ?_)
      · have h := it h c
        refine r_iinc (pc := 3270) (v := (x3 + (7 : Int32))) (L' := [(3, vI (x3 + (7 : Int32))), (0, vR (some 3)), (1, vR x1), (2, vR x2)]) dL_law_3270 3 rfl (kc_inc_7 _) (by decide) rfl ?_
        refine r_goto (pc := 3273) (tgt := 18) dL_law_3273 rfl ?_
        refine r_sub [1, 2, 3, 0] rfl ?_
        exact hq18 _ _ _ _ _ _ _ _ h
      · have h := ie h c
        refine r_iconst (pc := 464) dL_law_464 kc_iconst_0 ?_
        cases h
    · have h := ie h c
      refine r_iconst (pc := 453) dL_law_453 kc_iconst_1 ?_
      refine r_goto (pc := 454) (tgt := 458) dL_law_454 rfl ?_
      obtain ⟨a1153, ha1153, h⟩ := ob h
      refine r_ref5 ha1153 ?_
      obtain ⟨g1154, h⟩ := gd h
      obtain ⟨⟨I1155, r1156⟩, hc1157, h⟩ := ob h
      refine r_callV1 (pc := 458) (av := [vI (xs (Int32.toNatClampNeg (x3 + (1 : Int32)))), vI (xs (Int32.toNatClampNeg (x3 + (2 : Int32)))), vI (xs (Int32.toNatClampNeg (x3 + (3 : Int32)))), vI (xs (Int32.toNatClampNeg (x3 + (4 : Int32)))), vI (1 : Int32)]) (S := [vI r1144]) dL_law_458 (kX12_grid hc1157) g1154 rfl mkL_22 mwX12_grid rfl ⟨Nat.le_of_ble_eq_true rfl, Nat.le_of_ble_eq_true rfl⟩ (Nat.le_of_ble_eq_true rfl) ⟨Nat.le_refl _, Nat.le_refl _⟩ (fun b => b) ?_
      refine r_icmp_eq (pc := 461) (tgt := 3270) dL_law_461 rfl (fun c => ?_) (fun c => ?_)
      · have h := it h c
        refine r_iinc (pc := 3270) (v := (x3 + (7 : Int32))) (L' := [(3, vI (x3 + (7 : Int32))), (0, vR (some 3)), (1, vR x1), (2, vR x2)]) dL_law_3270 3 rfl (kc_inc_7 _) (by decide) rfl ?_
        refine r_goto (pc := 3273) (tgt := 18) dL_law_3273 rfl ?_
        refine r_sub [1, 2, 3, 0] rfl ?_
        exact hq18 _ _ _ _ _ _ _ _ h
      · have h := ie h c
        refine r_iconst (pc := 464) dL_law_464 kc_iconst_0 ?_
        cases h
def fL_law_b344 (q18 : (Shp) → (Nat → Nat → Int32) → (Nat → Nat → Int64) → (Nat → Nat → UInt64) → (Nat → Nat → Option Nat) → (Option Nat) → (Option Nat) → (Int32) → (Option (Unit))) (xs : Nat → Int32) (Lg : Nat) (σ : Shp) (I : Nat → Nat → Int32) (J : Nat → Nat → Int64) (D : Nat → Nat → UInt64) (R : Nat → Nat → Option Nat) (x1 : Option Nat) (x2 : Option Nat) (x3 : Int32) : Option Unit :=
  if ¬ ((x3 + (1 : Int32)) < 0 ∨ Lg ≤ Int32.toNatClampNeg (x3 + (1 : Int32))) then
  if ¬ ((x3 + (2 : Int32)) < 0 ∨ Lg ≤ Int32.toNatClampNeg (x3 + (2 : Int32))) then
  if ¬ ((x3 + (3 : Int32)) < 0 ∨ Lg ≤ Int32.toNatClampNeg (x3 + (3 : Int32))) then
  (x1 : Option Nat).bind fun a1162 =>
  if kdx σ a1162 = 12 then
  (fX11_row σ I R a1162 (xs (Int32.toNatClampNeg (x3 + (1 : Int32)))) (xs (Int32.toNatClampNeg (x3 + (2 : Int32)))) (xs (Int32.toNatClampNeg (x3 + (3 : Int32))))).bind fun (σ1164, I1165, R1166, r1167) =>
  if nxx σ1164 ≤ 600000 ∧ slx σ1164 ≤ 7300000 then
  (x2 : Option Nat).bind fun a1170 =>
  if kdx σ1164 a1170 = 13 then
  (fX12_row σ1164 I1165 R1166 a1170 (xs (Int32.toNatClampNeg (x3 + (1 : Int32)))) (xs (Int32.toNatClampNeg (x3 + (2 : Int32)))) (xs (Int32.toNatClampNeg (x3 + (3 : Int32))))).bind fun (I1172, r1173) =>
  if r1167 = r1173 then
    let v1175 := x3 + (7 : Int32)
    q18 σ1164 I1172 J D R1166 x1 x2 v1175
  else
    none
  else none
  else none
  else none
  else none
  else none
  else none
set_option maxHeartbeats 8000000 in
set_option maxRecDepth 100000 in
theorem wL_law_b344 {G : Gx} {l : Launch} {xs : Nat → Int32} {Lg : Nat} {σ0 : Shp} {σ : Shp} {I : Nat → Nat → Int32} {J : Nat → Nat → Int64} {D : Nat → Nat → UInt64} {R : Nat → Nat → Option Nat} {q18 : (Shp) → (Nat → Nat → Int32) → (Nat → Nat → Int64) → (Nat → Nat → UInt64) → (Nat → Nat → Option Nat) → (Option Nat) → (Option Nat) → (Int32) → (Option (Unit))} {x1 : Option Nat} {x2 : Option Nat} {x3 : Int32} (hq18 : ∀ (σ : Shp) (I : Nat → Nat → Int32) (J : Nat → Nat → Int64) (D : Nat → Nat → UInt64) (R : Nat → Nat → Option Nat) (x1 : Option Nat) (x2 : Option Nat) (x3 : Int32), q18 σ I J D R x1 x2 x3 = some () → WLaw G l xs Lg σ0 (σ, I, J, D, R) 18 [(0, vR (some 3)), (1, vR x1), (2, vR x2), (3, vI x3)] []) (h : fL_law_b344 q18 xs Lg σ I J D R x1 x2 x3 = some ()) : WLaw G l xs Lg σ0 (σ, I, J, D, R) 344 [(0, vR (some 3)), (1, vR x1), (2, vR x2), (3, vI x3)] [] := by
  unfold fL_law_b344 at h
  refine r_aload_n (pc := 344) dL_law_344 rfl 1 rfl ?_
  refine r_aload_n (pc := 345) dL_law_345 rfl 0 rfl ?_
  refine r_iload_n (pc := 346) dL_law_346 rfl 3 rfl ?_
  refine r_iconst (pc := 347) dL_law_347 kc_iconst_1 ?_
  refine r_iadd (pc := 348) dL_law_348 ?_
  obtain ⟨g1159, h⟩ := gd h
  refine r_scld (pc := 349) dL_law_349 g1159 ?_
  refine r_aload_n (pc := 350) dL_law_350 rfl 0 rfl ?_
  refine r_iload_n (pc := 351) dL_law_351 rfl 3 rfl ?_
  refine r_iconst (pc := 352) dL_law_352 kc_iconst_2 ?_
  refine r_iadd (pc := 353) dL_law_353 ?_
  obtain ⟨g1160, h⟩ := gd h
  refine r_scld (pc := 354) dL_law_354 g1160 ?_
  refine r_aload_n (pc := 355) dL_law_355 rfl 0 rfl ?_
  refine r_iload_n (pc := 356) dL_law_356 rfl 3 rfl ?_
  refine r_iconst (pc := 357) dL_law_357 kc_iconst_3 ?_
  refine r_iadd (pc := 358) dL_law_358 ?_
  obtain ⟨g1161, h⟩ := gd h
  refine r_scld (pc := 359) dL_law_359 g1161 ?_
  obtain ⟨a1162, ha1162, h⟩ := ob h
  refine r_ref3 ha1162 ?_
  obtain ⟨g1163, h⟩ := gd h
  obtain ⟨⟨σ1164, I1165, R1166, r1167⟩, hc1168, h⟩ := ob h
  obtain ⟨g1169, h⟩ := gd h
  refine r_callV1 (pc := 360) (av := [vI (xs (Int32.toNatClampNeg (x3 + (1 : Int32)))), vI (xs (Int32.toNatClampNeg (x3 + (2 : Int32)))), vI (xs (Int32.toNatClampNeg (x3 + (3 : Int32))))]) (S := []) dL_law_360 (kX11_row hc1168) g1163 rfl mkL_13 mwX11_row rfl ⟨Nat.le_of_ble_eq_true rfl, Nat.le_of_ble_eq_true rfl⟩ (Nat.le_of_ble_eq_true rfl) (mX11_row hc1168) (bdL (mX11_row hc1168) g1169) ?_
  refine r_aload_n (pc := 363) dL_law_363 rfl 2 rfl ?_
  refine r_aload_n (pc := 364) dL_law_364 rfl 0 rfl ?_
  refine r_iload_n (pc := 365) dL_law_365 rfl 3 rfl ?_
  refine r_iconst (pc := 366) dL_law_366 kc_iconst_1 ?_
  refine r_iadd (pc := 367) dL_law_367 ?_
  refine r_scld (pc := 368) dL_law_368 g1159 ?_
  refine r_aload_n (pc := 369) dL_law_369 rfl 0 rfl ?_
  refine r_iload_n (pc := 370) dL_law_370 rfl 3 rfl ?_
  refine r_iconst (pc := 371) dL_law_371 kc_iconst_2 ?_
  refine r_iadd (pc := 372) dL_law_372 ?_
  refine r_scld (pc := 373) dL_law_373 g1160 ?_
  refine r_aload_n (pc := 374) dL_law_374 rfl 0 rfl ?_
  refine r_iload_n (pc := 375) dL_law_375 rfl 3 rfl ?_
  refine r_iconst (pc := 376) dL_law_376 kc_iconst_3 ?_
  refine r_iadd (pc := 377) dL_law_377 ?_
  refine r_scld (pc := 378) dL_law_378 g1161 ?_
  obtain ⟨a1170, ha1170, h⟩ := ob h
  refine r_ref3 ha1170 ?_
  obtain ⟨g1171, h⟩ := gd h
  obtain ⟨⟨I1172, r1173⟩, hc1174, h⟩ := ob h
  refine r_callV1 (pc := 379) (av := [vI (xs (Int32.toNatClampNeg (x3 + (1 : Int32)))), vI (xs (Int32.toNatClampNeg (x3 + (2 : Int32)))), vI (xs (Int32.toNatClampNeg (x3 + (3 : Int32))))]) (S := [vI r1167]) dL_law_379 (kX12_row hc1174) g1171 rfl mkL_17 mwX12_row rfl ⟨Nat.le_of_ble_eq_true rfl, Nat.le_of_ble_eq_true rfl⟩ (Nat.le_of_ble_eq_true rfl) ⟨Nat.le_refl _, Nat.le_refl _⟩ (fun b => b) ?_
  refine r_icmp_eq (pc := 382) (tgt := 3270) dL_law_382 rfl (fun c => ?_) (fun c => ?_)
  · have h := it h c
    refine r_iinc (pc := 3270) (v := (x3 + (7 : Int32))) (L' := [(3, vI (x3 + (7 : Int32))), (0, vR (some 3)), (1, vR x1), (2, vR x2)]) dL_law_3270 3 rfl (kc_inc_7 _) (by decide) rfl ?_
    refine r_goto (pc := 3273) (tgt := 18) dL_law_3273 rfl ?_
    refine r_sub [1, 2, 3, 0] rfl ?_
    exact hq18 _ _ _ _ _ _ _ _ h
  · have h := ie h c
    refine r_iconst (pc := 385) dL_law_385 kc_iconst_0 ?_
    cases h
def fL_law_l18  (xs : Nat → Int32) (Lg : Nat) : Nat → (Shp) → (Nat → Nat → Int32) → (Nat → Nat → Int64) → (Nat → Nat → UInt64) → (Nat → Nat → Option Nat) → (Option Nat) → (Option Nat) → (Int32) → Option Unit
  | 0, _, _, _, _, _, _, _, _ => none
  | n + 1, σ, I, J, D, R, x1, x2, x3 =>
    if ((Int32.ofNat Lg) - (7 : Int32)) < x3 then
      some ()
    else
      if ¬ (x3 < 0 ∨ Lg ≤ Int32.toNatClampNeg x3) then
      if ((xs (Int32.toNatClampNeg x3)) &&& (127 : Int32)) = (0 : Int32) then
        fL_law_b344 (fL_law_l18 xs Lg n) xs Lg σ I J D R x1 x2 x3
      else
      if ((xs (Int32.toNatClampNeg x3)) &&& (127 : Int32)) = (1 : Int32) then
        fL_law_b387 (fL_law_l18 xs Lg n) xs Lg σ I J D R x1 x2 x3
      else
      if ((xs (Int32.toNatClampNeg x3)) &&& (127 : Int32)) = (2 : Int32) then
        fL_law_b466 (fL_law_l18 xs Lg n) xs Lg σ I J D R x1 x2 x3
      else
      if ((xs (Int32.toNatClampNeg x3)) &&& (127 : Int32)) = (3 : Int32) then
        fL_law_b499 (fL_law_l18 xs Lg n) xs Lg σ I J D R x1 x2 x3
      else
      if ((xs (Int32.toNatClampNeg x3)) &&& (127 : Int32)) = (4 : Int32) then
        fL_law_b532 (fL_law_l18 xs Lg n) xs Lg σ I J D R x1 x2 x3
      else
      if ((xs (Int32.toNatClampNeg x3)) &&& (127 : Int32)) = (5 : Int32) then
        fL_law_b555 (fL_law_l18 xs Lg n) xs Lg σ I J D R x1 x2 x3
      else
      if ((xs (Int32.toNatClampNeg x3)) &&& (127 : Int32)) = (6 : Int32) then
        fL_law_b588 (fL_law_l18 xs Lg n) xs Lg σ I J D R x1 x2 x3
      else
      if ((xs (Int32.toNatClampNeg x3)) &&& (127 : Int32)) = (7 : Int32) then
        fL_law_b632 (fL_law_l18 xs Lg n) xs Lg σ I J D R x1 x2 x3
      else
      if ((xs (Int32.toNatClampNeg x3)) &&& (127 : Int32)) = (8 : Int32) then
        fL_law_b715 (fL_law_l18 xs Lg n) xs Lg σ I J D R x1 x2 x3
      else
      if ((xs (Int32.toNatClampNeg x3)) &&& (127 : Int32)) = (9 : Int32) then
        fL_law_b769 (fL_law_l18 xs Lg n) xs Lg σ I J D R x1 x2 x3
      else
      if ((xs (Int32.toNatClampNeg x3)) &&& (127 : Int32)) = (10 : Int32) then
        fL_law_b864 (fL_law_l18 xs Lg n) xs Lg σ I J D R x1 x2 x3
      else
      if ((xs (Int32.toNatClampNeg x3)) &&& (127 : Int32)) = (11 : Int32) then
        fL_law_b943 (fL_law_l18 xs Lg n) xs Lg σ I J D R x1 x2 x3
      else
      if ((xs (Int32.toNatClampNeg x3)) &&& (127 : Int32)) = (12 : Int32) then
        fL_law_b986 (fL_law_l18 xs Lg n) xs Lg σ I J D R x1 x2 x3
      else
      if ((xs (Int32.toNatClampNeg x3)) &&& (127 : Int32)) = (13 : Int32) then
        fL_law_b1029 (fL_law_l18 xs Lg n) xs Lg σ I J D R x1 x2 x3
      else
      if ((xs (Int32.toNatClampNeg x3)) &&& (127 : Int32)) = (14 : Int32) then
        fL_law_b1082 (fL_law_l18 xs Lg n) xs Lg σ I J D R x1 x2 x3
      else
      if ((xs (Int32.toNatClampNeg x3)) &&& (127 : Int32)) = (15 : Int32) then
        fL_law_b1145 (fL_law_l18 xs Lg n) xs Lg σ I J D R x1 x2 x3
      else
      if ((xs (Int32.toNatClampNeg x3)) &&& (127 : Int32)) = (16 : Int32) then
        fL_law_b1158 (fL_law_l18 xs Lg n) xs Lg σ I J D R x1 x2 x3
      else
      if ((xs (Int32.toNatClampNeg x3)) &&& (127 : Int32)) = (17 : Int32) then
        fL_law_b1217 (fL_law_l18 xs Lg n) xs Lg σ I J D R x1 x2 x3
      else
      if ((xs (Int32.toNatClampNeg x3)) &&& (127 : Int32)) = (18 : Int32) then
        fL_law_b1250 (fL_law_l18 xs Lg n) xs Lg σ I J D R x1 x2 x3
      else
      if ((xs (Int32.toNatClampNeg x3)) &&& (127 : Int32)) = (19 : Int32) then
        fL_law_b1283 (fL_law_l18 xs Lg n) xs Lg σ I J D R x1 x2 x3
      else
      if ((xs (Int32.toNatClampNeg x3)) &&& (127 : Int32)) = (20 : Int32) then
        fL_law_b1358 (fL_law_l18 xs Lg n) xs Lg σ I J D R x1 x2 x3
      else
      if ((xs (Int32.toNatClampNeg x3)) &&& (127 : Int32)) = (21 : Int32) then
        fL_law_b1401 (fL_law_l18 xs Lg n) xs Lg σ I J D R x1 x2 x3
      else
      if ((xs (Int32.toNatClampNeg x3)) &&& (127 : Int32)) = (22 : Int32) then
        fL_law_b1434 (fL_law_l18 xs Lg n) xs Lg σ I J D R x1 x2 x3
      else
      if ((xs (Int32.toNatClampNeg x3)) &&& (127 : Int32)) = (23 : Int32) then
        fL_law_b1447 (fL_law_l18 xs Lg n) xs Lg σ I J D R x1 x2 x3
      else
      if ((xs (Int32.toNatClampNeg x3)) &&& (127 : Int32)) = (24 : Int32) then
        fL_law_b1470 (fL_law_l18 xs Lg n) xs Lg σ I J D R x1 x2 x3
      else
      if ((xs (Int32.toNatClampNeg x3)) &&& (127 : Int32)) = (25 : Int32) then
        fL_law_b1493 (fL_law_l18 xs Lg n) xs Lg σ I J D R x1 x2 x3
      else
      if ((xs (Int32.toNatClampNeg x3)) &&& (127 : Int32)) = (26 : Int32) then
        fL_law_b1527 (fL_law_l18 xs Lg n) xs Lg σ I J D R x1 x2 x3
      else
      if ((xs (Int32.toNatClampNeg x3)) &&& (127 : Int32)) = (27 : Int32) then
        fL_law_b1600 (fL_law_l18 xs Lg n) xs Lg σ I J D R x1 x2 x3
      else
      if ((xs (Int32.toNatClampNeg x3)) &&& (127 : Int32)) = (28 : Int32) then
        fL_law_b1643 (fL_law_l18 xs Lg n) xs Lg σ I J D R x1 x2 x3
      else
      if ((xs (Int32.toNatClampNeg x3)) &&& (127 : Int32)) = (29 : Int32) then
        fL_law_b1686 (fL_law_l18 xs Lg n) xs Lg σ I J D R x1 x2 x3
      else
      if ((xs (Int32.toNatClampNeg x3)) &&& (127 : Int32)) = (30 : Int32) then
        fL_law_b1719 (fL_law_l18 xs Lg n) xs Lg σ I J D R x1 x2 x3
      else
      if ((xs (Int32.toNatClampNeg x3)) &&& (127 : Int32)) = (31 : Int32) then
        fL_law_b1782 (fL_law_l18 xs Lg n) xs Lg σ I J D R x1 x2 x3
      else
      if ((xs (Int32.toNatClampNeg x3)) &&& (127 : Int32)) = (32 : Int32) then
        fL_law_b1805 (fL_law_l18 xs Lg n) xs Lg σ I J D R x1 x2 x3
      else
      if ((xs (Int32.toNatClampNeg x3)) &&& (127 : Int32)) = (33 : Int32) then
        fL_law_b1828 (fL_law_l18 xs Lg n) xs Lg σ I J D R x1 x2 x3
      else
      if ((xs (Int32.toNatClampNeg x3)) &&& (127 : Int32)) = (34 : Int32) then
        fL_law_b1851 (fL_law_l18 xs Lg n) xs Lg σ I J D R x1 x2 x3
      else
      if ((xs (Int32.toNatClampNeg x3)) &&& (127 : Int32)) = (35 : Int32) then
        fL_law_b1874 (fL_law_l18 xs Lg n) xs Lg σ I J D R x1 x2 x3
      else
      if ((xs (Int32.toNatClampNeg x3)) &&& (127 : Int32)) = (36 : Int32) then
        fL_law_b1898 (fL_law_l18 xs Lg n) xs Lg σ I J D R x1 x2 x3
      else
      if ((xs (Int32.toNatClampNeg x3)) &&& (127 : Int32)) = (37 : Int32) then
        fL_law_b1961 (fL_law_l18 xs Lg n) xs Lg σ I J D R x1 x2 x3
      else
      if ((xs (Int32.toNatClampNeg x3)) &&& (127 : Int32)) = (38 : Int32) then
        fL_law_b1994 (fL_law_l18 xs Lg n) xs Lg σ I J D R x1 x2 x3
      else
      if ((xs (Int32.toNatClampNeg x3)) &&& (127 : Int32)) = (39 : Int32) then
        fL_law_b2037 (fL_law_l18 xs Lg n) xs Lg σ I J D R x1 x2 x3
      else
      if ((xs (Int32.toNatClampNeg x3)) &&& (127 : Int32)) = (40 : Int32) then
        fL_law_b2070 (fL_law_l18 xs Lg n) xs Lg σ I J D R x1 x2 x3
      else
      if ((xs (Int32.toNatClampNeg x3)) &&& (127 : Int32)) = (41 : Int32) then
        fL_law_b2103 (fL_law_l18 xs Lg n) xs Lg σ I J D R x1 x2 x3
      else
      if ((xs (Int32.toNatClampNeg x3)) &&& (127 : Int32)) = (42 : Int32) then
        fL_law_b2126 (fL_law_l18 xs Lg n) xs Lg σ I J D R x1 x2 x3
      else
      if ((xs (Int32.toNatClampNeg x3)) &&& (127 : Int32)) = (43 : Int32) then
        fL_law_b2189 (fL_law_l18 xs Lg n) xs Lg σ I J D R x1 x2 x3
      else
      if ((xs (Int32.toNatClampNeg x3)) &&& (127 : Int32)) = (44 : Int32) then
        fL_law_b2242 (fL_law_l18 xs Lg n) xs Lg σ I J D R x1 x2 x3
      else
      if ((xs (Int32.toNatClampNeg x3)) &&& (127 : Int32)) = (45 : Int32) then
        fL_law_b2275 (fL_law_l18 xs Lg n) xs Lg σ I J D R x1 x2 x3
      else
      if ((xs (Int32.toNatClampNeg x3)) &&& (127 : Int32)) = (46 : Int32) then
        fL_law_b2299 (fL_law_l18 xs Lg n) xs Lg σ I J D R x1 x2 x3
      else
      if ((xs (Int32.toNatClampNeg x3)) &&& (127 : Int32)) = (47 : Int32) then
        fL_law_b2332 (fL_law_l18 xs Lg n) xs Lg σ I J D R x1 x2 x3
      else
      if ((xs (Int32.toNatClampNeg x3)) &&& (127 : Int32)) = (48 : Int32) then
        fL_law_b2375 (fL_law_l18 xs Lg n) xs Lg σ I J D R x1 x2 x3
      else
      if ((xs (Int32.toNatClampNeg x3)) &&& (127 : Int32)) = (49 : Int32) then
        fL_law_b2398 (fL_law_l18 xs Lg n) xs Lg σ I J D R x1 x2 x3
      else
      if ((xs (Int32.toNatClampNeg x3)) &&& (127 : Int32)) = (50 : Int32) then
        fL_law_b2431 (fL_law_l18 xs Lg n) xs Lg σ I J D R x1 x2 x3
      else
      if ((xs (Int32.toNatClampNeg x3)) &&& (127 : Int32)) = (51 : Int32) then
        fL_law_b2454 (fL_law_l18 xs Lg n) xs Lg σ I J D R x1 x2 x3
      else
      if ((xs (Int32.toNatClampNeg x3)) &&& (127 : Int32)) = (52 : Int32) then
        fL_law_b2488 (fL_law_l18 xs Lg n) xs Lg σ I J D R x1 x2 x3
      else
      if ((xs (Int32.toNatClampNeg x3)) &&& (127 : Int32)) = (53 : Int32) then
        fL_law_b2531 (fL_law_l18 xs Lg n) xs Lg σ I J D R x1 x2 x3
      else
      if ((xs (Int32.toNatClampNeg x3)) &&& (127 : Int32)) = (54 : Int32) then
        fL_law_b2647 (fL_law_l18 xs Lg n) xs Lg σ I J D R x1 x2 x3
      else
      if ((xs (Int32.toNatClampNeg x3)) &&& (127 : Int32)) = (55 : Int32) then
        fL_law_b2710 (fL_law_l18 xs Lg n) xs Lg σ I J D R x1 x2 x3
      else
      if ((xs (Int32.toNatClampNeg x3)) &&& (127 : Int32)) = (56 : Int32) then
        fL_law_b2754 (fL_law_l18 xs Lg n) xs Lg σ I J D R x1 x2 x3
      else
      if ((xs (Int32.toNatClampNeg x3)) &&& (127 : Int32)) = (57 : Int32) then
        fL_law_b2777 (fL_law_l18 xs Lg n) xs Lg σ I J D R x1 x2 x3
      else
      if ((xs (Int32.toNatClampNeg x3)) &&& (127 : Int32)) = (58 : Int32) then
        fL_law_b2820 (fL_law_l18 xs Lg n) xs Lg σ I J D R x1 x2 x3
      else
      if ((xs (Int32.toNatClampNeg x3)) &&& (127 : Int32)) = (59 : Int32) then
        fL_law_b2833 (fL_law_l18 xs Lg n) xs Lg σ I J D R x1 x2 x3
      else
      if ((xs (Int32.toNatClampNeg x3)) &&& (127 : Int32)) = (60 : Int32) then
        fL_law_b2867 (fL_law_l18 xs Lg n) xs Lg σ I J D R x1 x2 x3
      else
      if ((xs (Int32.toNatClampNeg x3)) &&& (127 : Int32)) = (61 : Int32) then
        fL_law_b2910 (fL_law_l18 xs Lg n) xs Lg σ I J D R x1 x2 x3
      else
      if ((xs (Int32.toNatClampNeg x3)) &&& (127 : Int32)) = (62 : Int32) then
        fL_law_b2973 (fL_law_l18 xs Lg n) xs Lg σ I J D R x1 x2 x3
      else
      if ((xs (Int32.toNatClampNeg x3)) &&& (127 : Int32)) = (63 : Int32) then
        fL_law_b2996 (fL_law_l18 xs Lg n) xs Lg σ I J D R x1 x2 x3
      else
      if ((xs (Int32.toNatClampNeg x3)) &&& (127 : Int32)) = (64 : Int32) then
        fL_law_b3019 (fL_law_l18 xs Lg n) xs Lg σ I J D R x1 x2 x3
      else
      if ((xs (Int32.toNatClampNeg x3)) &&& (127 : Int32)) = (65 : Int32) then
        fL_law_b3052 (fL_law_l18 xs Lg n) xs Lg σ I J D R x1 x2 x3
      else
      if ((xs (Int32.toNatClampNeg x3)) &&& (127 : Int32)) = (66 : Int32) then
        fL_law_b3065 (fL_law_l18 xs Lg n) xs Lg σ I J D R x1 x2 x3
      else
      if ((xs (Int32.toNatClampNeg x3)) &&& (127 : Int32)) = (67 : Int32) then
        fL_law_b3088 (fL_law_l18 xs Lg n) xs Lg σ I J D R x1 x2 x3
      else
      if ((xs (Int32.toNatClampNeg x3)) &&& (127 : Int32)) = (68 : Int32) then
        fL_law_b3111 (fL_law_l18 xs Lg n) xs Lg σ I J D R x1 x2 x3
      else
      if ((xs (Int32.toNatClampNeg x3)) &&& (127 : Int32)) = (69 : Int32) then
        fL_law_b3124 (fL_law_l18 xs Lg n) xs Lg σ I J D R x1 x2 x3
      else
      if ((xs (Int32.toNatClampNeg x3)) &&& (127 : Int32)) = (70 : Int32) then
        fL_law_b3158 (fL_law_l18 xs Lg n) xs Lg σ I J D R x1 x2 x3
      else
      if ((xs (Int32.toNatClampNeg x3)) &&& (127 : Int32)) = (71 : Int32) then
        fL_law_b3191 (fL_law_l18 xs Lg n) xs Lg σ I J D R x1 x2 x3
      else
      if ((xs (Int32.toNatClampNeg x3)) &&& (127 : Int32)) = (72 : Int32) then
        fL_law_b3234 (fL_law_l18 xs Lg n) xs Lg σ I J D R x1 x2 x3
      else
      if ((xs (Int32.toNatClampNeg x3)) &&& (127 : Int32)) = (73 : Int32) then
        fL_law_b3257 (fL_law_l18 xs Lg n) xs Lg σ I J D R x1 x2 x3
      else
      let v98 := x3 + (7 : Int32)
      fL_law_l18 xs Lg n σ I J D R x1 x2 v98
      else none
set_option maxHeartbeats 8000000 in
set_option maxRecDepth 100000 in
theorem wL_law_l18 {G : Gx} {l : Launch} {xs : Nat → Int32} {Lg : Nat} {σ0 : Shp}  : ∀ (n : Nat) (σ : Shp) (I : Nat → Nat → Int32) (J : Nat → Nat → Int64) (D : Nat → Nat → UInt64) (R : Nat → Nat → Option Nat) (x1 : Option Nat) (x2 : Option Nat) (x3 : Int32), fL_law_l18 xs Lg n σ I J D R x1 x2 x3 = some () → WLaw G l xs Lg σ0 (σ, I, J, D, R) 18 [(0, vR (some 3)), (1, vR x1), (2, vR x2), (3, vI x3)] [] := by
  intro n
  induction n with
  | zero =>
    intro σ I J D R x1 x2 x3 h
    have h : none = some _ := h
    cases h
  | succ n ih =>
    intro σ I J D R x1 x2 x3 h
    rw [fL_law_l18] at h
    refine r_iload_n (pc := 18) dL_law_18 rfl 3 rfl ?_
    refine r_aload_n (pc := 19) dL_law_19 rfl 0 rfl ?_
    refine r_sclen (pc := 20) dL_law_20 ?_
    refine r_bipush (pc := 21) dL_law_21 kc_bipush_7 ?_
    refine r_isub (pc := 23) dL_law_23 ?_
    refine r_icmp_gt (pc := 24) (tgt := 3276) dL_law_24 rfl (fun c => ?_) (fun c => ?_)
    · have h := it h c
      refine r_iconst (pc := 3276) dL_law_3276 kc_iconst_1 ?_
      cases h
      exact r_lawret dL_law_3277 rfl
    · have h := ie h c
      refine r_aload_n (pc := 27) dL_law_27 rfl 0 rfl ?_
      refine r_iload_n (pc := 28) dL_law_28 rfl 3 rfl ?_
      obtain ⟨g23, h⟩ := gd h
      refine r_scld (pc := 29) dL_law_29 g23 ?_
      refine r_bipush (pc := 30) dL_law_30 kc_bipush_127 ?_
      refine r_iand (pc := 32) dL_law_32 ?_
      rcases itc h with ⟨c24, h⟩ | ⟨c24, h⟩
      · refine r_tsIn (x := ((xs (Int32.toNatClampNeg x3)) &&& (127 : Int32))) (pc := 33) (tgt := 344) dL_law_33 (by rw [c24]; decide) (by rw [c24]; decide) (by rw [c24]; rfl) rfl ?_
        refine r_sub [0, 1, 2, 3] rfl ?_
        exact wL_law_b344 ih h
      · rcases itc h with ⟨c25, h⟩ | ⟨c25, h⟩
        · refine r_tsIn (x := ((xs (Int32.toNatClampNeg x3)) &&& (127 : Int32))) (pc := 33) (tgt := 387) dL_law_33 (by rw [c25]; decide) (by rw [c25]; decide) (by rw [c25]; rfl) rfl ?_
          refine r_sub [0, 1, 2, 3] rfl ?_
          exact wL_law_b387 ih h
        · rcases itc h with ⟨c26, h⟩ | ⟨c26, h⟩
          · refine r_tsIn (x := ((xs (Int32.toNatClampNeg x3)) &&& (127 : Int32))) (pc := 33) (tgt := 466) dL_law_33 (by rw [c26]; decide) (by rw [c26]; decide) (by rw [c26]; rfl) rfl ?_
            refine r_sub [0, 1, 2, 3] rfl ?_
            exact wL_law_b466 ih h
          · rcases itc h with ⟨c27, h⟩ | ⟨c27, h⟩
            · refine r_tsIn (x := ((xs (Int32.toNatClampNeg x3)) &&& (127 : Int32))) (pc := 33) (tgt := 499) dL_law_33 (by rw [c27]; decide) (by rw [c27]; decide) (by rw [c27]; rfl) rfl ?_
              refine r_sub [0, 1, 2, 3] rfl ?_
              exact wL_law_b499 ih h
            · rcases itc h with ⟨c28, h⟩ | ⟨c28, h⟩
              · refine r_tsIn (x := ((xs (Int32.toNatClampNeg x3)) &&& (127 : Int32))) (pc := 33) (tgt := 532) dL_law_33 (by rw [c28]; decide) (by rw [c28]; decide) (by rw [c28]; rfl) rfl ?_
                refine r_sub [0, 1, 2, 3] rfl ?_
                exact wL_law_b532 ih h
              · rcases itc h with ⟨c29, h⟩ | ⟨c29, h⟩
                · refine r_tsIn (x := ((xs (Int32.toNatClampNeg x3)) &&& (127 : Int32))) (pc := 33) (tgt := 555) dL_law_33 (by rw [c29]; decide) (by rw [c29]; decide) (by rw [c29]; rfl) rfl ?_
                  refine r_sub [0, 1, 2, 3] rfl ?_
                  exact wL_law_b555 ih h
                · rcases itc h with ⟨c30, h⟩ | ⟨c30, h⟩
                  · refine r_tsIn (x := ((xs (Int32.toNatClampNeg x3)) &&& (127 : Int32))) (pc := 33) (tgt := 588) dL_law_33 (by rw [c30]; decide) (by rw [c30]; decide) (by rw [c30]; rfl) rfl ?_
                    refine r_sub [0, 1, 2, 3] rfl ?_
                    exact wL_law_b588 ih h
                  · rcases itc h with ⟨c31, h⟩ | ⟨c31, h⟩
                    · refine r_tsIn (x := ((xs (Int32.toNatClampNeg x3)) &&& (127 : Int32))) (pc := 33) (tgt := 632) dL_law_33 (by rw [c31]; decide) (by rw [c31]; decide) (by rw [c31]; rfl) rfl ?_
                      refine r_sub [0, 1, 2, 3] rfl ?_
                      exact wL_law_b632 ih h
                    · rcases itc h with ⟨c32, h⟩ | ⟨c32, h⟩
                      · refine r_tsIn (x := ((xs (Int32.toNatClampNeg x3)) &&& (127 : Int32))) (pc := 33) (tgt := 715) dL_law_33 (by rw [c32]; decide) (by rw [c32]; decide) (by rw [c32]; rfl) rfl ?_
                        refine r_sub [0, 1, 2, 3] rfl ?_
                        exact wL_law_b715 ih h
                      · rcases itc h with ⟨c33, h⟩ | ⟨c33, h⟩
                        · refine r_tsIn (x := ((xs (Int32.toNatClampNeg x3)) &&& (127 : Int32))) (pc := 33) (tgt := 769) dL_law_33 (by rw [c33]; decide) (by rw [c33]; decide) (by rw [c33]; rfl) rfl ?_
                          refine r_sub [0, 1, 2, 3] rfl ?_
                          exact wL_law_b769 ih h
                        · rcases itc h with ⟨c34, h⟩ | ⟨c34, h⟩
                          · refine r_tsIn (x := ((xs (Int32.toNatClampNeg x3)) &&& (127 : Int32))) (pc := 33) (tgt := 864) dL_law_33 (by rw [c34]; decide) (by rw [c34]; decide) (by rw [c34]; rfl) rfl ?_
                            refine r_sub [0, 1, 2, 3] rfl ?_
                            exact wL_law_b864 ih h
                          · rcases itc h with ⟨c35, h⟩ | ⟨c35, h⟩
                            · refine r_tsIn (x := ((xs (Int32.toNatClampNeg x3)) &&& (127 : Int32))) (pc := 33) (tgt := 943) dL_law_33 (by rw [c35]; decide) (by rw [c35]; decide) (by rw [c35]; rfl) rfl ?_
                              refine r_sub [0, 1, 2, 3] rfl ?_
                              exact wL_law_b943 ih h
                            · rcases itc h with ⟨c36, h⟩ | ⟨c36, h⟩
                              · refine r_tsIn (x := ((xs (Int32.toNatClampNeg x3)) &&& (127 : Int32))) (pc := 33) (tgt := 986) dL_law_33 (by rw [c36]; decide) (by rw [c36]; decide) (by rw [c36]; rfl) rfl ?_
                                refine r_sub [0, 1, 2, 3] rfl ?_
                                exact wL_law_b986 ih h
                              · rcases itc h with ⟨c37, h⟩ | ⟨c37, h⟩
                                · refine r_tsIn (x := ((xs (Int32.toNatClampNeg x3)) &&& (127 : Int32))) (pc := 33) (tgt := 1029) dL_law_33 (by rw [c37]; decide) (by rw [c37]; decide) (by rw [c37]; rfl) rfl ?_
                                  refine r_sub [0, 1, 2, 3] rfl ?_
                                  exact wL_law_b1029 ih h
                                · rcases itc h with ⟨c38, h⟩ | ⟨c38, h⟩
                                  · refine r_tsIn (x := ((xs (Int32.toNatClampNeg x3)) &&& (127 : Int32))) (pc := 33) (tgt := 1082) dL_law_33 (by rw [c38]; decide) (by rw [c38]; decide) (by rw [c38]; rfl) rfl ?_
                                    refine r_sub [0, 1, 2, 3] rfl ?_
                                    exact wL_law_b1082 ih h
                                  · rcases itc h with ⟨c39, h⟩ | ⟨c39, h⟩
                                    · refine r_tsIn (x := ((xs (Int32.toNatClampNeg x3)) &&& (127 : Int32))) (pc := 33) (tgt := 1145) dL_law_33 (by rw [c39]; decide) (by rw [c39]; decide) (by rw [c39]; rfl) rfl ?_
                                      refine r_sub [0, 1, 2, 3] rfl ?_
                                      exact wL_law_b1145 ih h
                                    · rcases itc h with ⟨c40, h⟩ | ⟨c40, h⟩
                                      · refine r_tsIn (x := ((xs (Int32.toNatClampNeg x3)) &&& (127 : Int32))) (pc := 33) (tgt := 1158) dL_law_33 (by rw [c40]; decide) (by rw [c40]; decide) (by rw [c40]; rfl) rfl ?_
                                        refine r_sub [0, 1, 2, 3] rfl ?_
                                        exact wL_law_b1158 ih h
                                      · rcases itc h with ⟨c41, h⟩ | ⟨c41, h⟩
                                        · refine r_tsIn (x := ((xs (Int32.toNatClampNeg x3)) &&& (127 : Int32))) (pc := 33) (tgt := 1217) dL_law_33 (by rw [c41]; decide) (by rw [c41]; decide) (by rw [c41]; rfl) rfl ?_
                                          refine r_sub [0, 1, 2, 3] rfl ?_
                                          exact wL_law_b1217 ih h
                                        · rcases itc h with ⟨c42, h⟩ | ⟨c42, h⟩
                                          · refine r_tsIn (x := ((xs (Int32.toNatClampNeg x3)) &&& (127 : Int32))) (pc := 33) (tgt := 1250) dL_law_33 (by rw [c42]; decide) (by rw [c42]; decide) (by rw [c42]; rfl) rfl ?_
                                            refine r_sub [0, 1, 2, 3] rfl ?_
                                            exact wL_law_b1250 ih h
                                          · rcases itc h with ⟨c43, h⟩ | ⟨c43, h⟩
                                            · refine r_tsIn (x := ((xs (Int32.toNatClampNeg x3)) &&& (127 : Int32))) (pc := 33) (tgt := 1283) dL_law_33 (by rw [c43]; decide) (by rw [c43]; decide) (by rw [c43]; rfl) rfl ?_
                                              refine r_sub [0, 1, 2, 3] rfl ?_
                                              exact wL_law_b1283 ih h
                                            · rcases itc h with ⟨c44, h⟩ | ⟨c44, h⟩
                                              · refine r_tsIn (x := ((xs (Int32.toNatClampNeg x3)) &&& (127 : Int32))) (pc := 33) (tgt := 1358) dL_law_33 (by rw [c44]; decide) (by rw [c44]; decide) (by rw [c44]; rfl) rfl ?_
                                                refine r_sub [0, 1, 2, 3] rfl ?_
                                                exact wL_law_b1358 ih h
                                              · rcases itc h with ⟨c45, h⟩ | ⟨c45, h⟩
                                                · refine r_tsIn (x := ((xs (Int32.toNatClampNeg x3)) &&& (127 : Int32))) (pc := 33) (tgt := 1401) dL_law_33 (by rw [c45]; decide) (by rw [c45]; decide) (by rw [c45]; rfl) rfl ?_
                                                  refine r_sub [0, 1, 2, 3] rfl ?_
                                                  exact wL_law_b1401 ih h
                                                · rcases itc h with ⟨c46, h⟩ | ⟨c46, h⟩
                                                  · refine r_tsIn (x := ((xs (Int32.toNatClampNeg x3)) &&& (127 : Int32))) (pc := 33) (tgt := 1434) dL_law_33 (by rw [c46]; decide) (by rw [c46]; decide) (by rw [c46]; rfl) rfl ?_
                                                    refine r_sub [0, 1, 2, 3] rfl ?_
                                                    exact wL_law_b1434 ih h
                                                  · rcases itc h with ⟨c47, h⟩ | ⟨c47, h⟩
                                                    · refine r_tsIn (x := ((xs (Int32.toNatClampNeg x3)) &&& (127 : Int32))) (pc := 33) (tgt := 1447) dL_law_33 (by rw [c47]; decide) (by rw [c47]; decide) (by rw [c47]; rfl) rfl ?_
                                                      refine r_sub [0, 1, 2, 3] rfl ?_
                                                      exact wL_law_b1447 ih h
                                                    · rcases itc h with ⟨c48, h⟩ | ⟨c48, h⟩
                                                      · refine r_tsIn (x := ((xs (Int32.toNatClampNeg x3)) &&& (127 : Int32))) (pc := 33) (tgt := 1470) dL_law_33 (by rw [c48]; decide) (by rw [c48]; decide) (by rw [c48]; rfl) rfl ?_
                                                        refine r_sub [0, 1, 2, 3] rfl ?_
                                                        exact wL_law_b1470 ih h
                                                      · rcases itc h with ⟨c49, h⟩ | ⟨c49, h⟩
                                                        · refine r_tsIn (x := ((xs (Int32.toNatClampNeg x3)) &&& (127 : Int32))) (pc := 33) (tgt := 1493) dL_law_33 (by rw [c49]; decide) (by rw [c49]; decide) (by rw [c49]; rfl) rfl ?_
                                                          refine r_sub [0, 1, 2, 3] rfl ?_
                                                          exact wL_law_b1493 ih h
                                                        · rcases itc h with ⟨c50, h⟩ | ⟨c50, h⟩
                                                          · refine r_tsIn (x := ((xs (Int32.toNatClampNeg x3)) &&& (127 : Int32))) (pc := 33) (tgt := 1527) dL_law_33 (by rw [c50]; decide) (by rw [c50]; decide) (by rw [c50]; rfl) rfl ?_
                                                            refine r_sub [0, 1, 2, 3] rfl ?_
                                                            exact wL_law_b1527 ih h
                                                          · rcases itc h with ⟨c51, h⟩ | ⟨c51, h⟩
                                                            · refine r_tsIn (x := ((xs (Int32.toNatClampNeg x3)) &&& (127 : Int32))) (pc := 33) (tgt := 1600) dL_law_33 (by rw [c51]; decide) (by rw [c51]; decide) (by rw [c51]; rfl) rfl ?_
                                                              refine r_sub [0, 1, 2, 3] rfl ?_
                                                              exact wL_law_b1600 ih h
                                                            · rcases itc h with ⟨c52, h⟩ | ⟨c52, h⟩
                                                              · refine r_tsIn (x := ((xs (Int32.toNatClampNeg x3)) &&& (127 : Int32))) (pc := 33) (tgt := 1643) dL_law_33 (by rw [c52]; decide) (by rw [c52]; decide) (by rw [c52]; rfl) rfl ?_
                                                                refine r_sub [0, 1, 2, 3] rfl ?_
                                                                exact wL_law_b1643 ih h
                                                              · rcases itc h with ⟨c53, h⟩ | ⟨c53, h⟩
                                                                · refine r_tsIn (x := ((xs (Int32.toNatClampNeg x3)) &&& (127 : Int32))) (pc := 33) (tgt := 1686) dL_law_33 (by rw [c53]; decide) (by rw [c53]; decide) (by rw [c53]; rfl) rfl ?_
                                                                  refine r_sub [0, 1, 2, 3] rfl ?_
                                                                  exact wL_law_b1686 ih h
                                                                · rcases itc h with ⟨c54, h⟩ | ⟨c54, h⟩
                                                                  · refine r_tsIn (x := ((xs (Int32.toNatClampNeg x3)) &&& (127 : Int32))) (pc := 33) (tgt := 1719) dL_law_33 (by rw [c54]; decide) (by rw [c54]; decide) (by rw [c54]; rfl) rfl ?_
                                                                    refine r_sub [0, 1, 2, 3] rfl ?_
                                                                    exact wL_law_b1719 ih h
                                                                  · rcases itc h with ⟨c55, h⟩ | ⟨c55, h⟩
                                                                    · refine r_tsIn (x := ((xs (Int32.toNatClampNeg x3)) &&& (127 : Int32))) (pc := 33) (tgt := 1782) dL_law_33 (by rw [c55]; decide) (by rw [c55]; decide) (by rw [c55]; rfl) rfl ?_
                                                                      refine r_sub [0, 1, 2, 3] rfl ?_
                                                                      exact wL_law_b1782 ih h
                                                                    · rcases itc h with ⟨c56, h⟩ | ⟨c56, h⟩
                                                                      · refine r_tsIn (x := ((xs (Int32.toNatClampNeg x3)) &&& (127 : Int32))) (pc := 33) (tgt := 1805) dL_law_33 (by rw [c56]; decide) (by rw [c56]; decide) (by rw [c56]; rfl) rfl ?_
                                                                        refine r_sub [0, 1, 2, 3] rfl ?_
                                                                        exact wL_law_b1805 ih h
                                                                      · rcases itc h with ⟨c57, h⟩ | ⟨c57, h⟩
                                                                        · refine r_tsIn (x := ((xs (Int32.toNatClampNeg x3)) &&& (127 : Int32))) (pc := 33) (tgt := 1828) dL_law_33 (by rw [c57]; decide) (by rw [c57]; decide) (by rw [c57]; rfl) rfl ?_
                                                                          refine r_sub [0, 1, 2, 3] rfl ?_
                                                                          exact wL_law_b1828 ih h
                                                                        · rcases itc h with ⟨c58, h⟩ | ⟨c58, h⟩
                                                                          · refine r_tsIn (x := ((xs (Int32.toNatClampNeg x3)) &&& (127 : Int32))) (pc := 33) (tgt := 1851) dL_law_33 (by rw [c58]; decide) (by rw [c58]; decide) (by rw [c58]; rfl) rfl ?_
                                                                            refine r_sub [0, 1, 2, 3] rfl ?_
                                                                            exact wL_law_b1851 ih h
                                                                          · rcases itc h with ⟨c59, h⟩ | ⟨c59, h⟩
                                                                            · refine r_tsIn (x := ((xs (Int32.toNatClampNeg x3)) &&& (127 : Int32))) (pc := 33) (tgt := 1874) dL_law_33 (by rw [c59]; decide) (by rw [c59]; decide) (by rw [c59]; rfl) rfl ?_
                                                                              refine r_sub [0, 1, 2, 3] rfl ?_
                                                                              exact wL_law_b1874 ih h
                                                                            · rcases itc h with ⟨c60, h⟩ | ⟨c60, h⟩
                                                                              · refine r_tsIn (x := ((xs (Int32.toNatClampNeg x3)) &&& (127 : Int32))) (pc := 33) (tgt := 1898) dL_law_33 (by rw [c60]; decide) (by rw [c60]; decide) (by rw [c60]; rfl) rfl ?_
                                                                                refine r_sub [0, 1, 2, 3] rfl ?_
                                                                                exact wL_law_b1898 ih h
                                                                              · rcases itc h with ⟨c61, h⟩ | ⟨c61, h⟩
                                                                                · refine r_tsIn (x := ((xs (Int32.toNatClampNeg x3)) &&& (127 : Int32))) (pc := 33) (tgt := 1961) dL_law_33 (by rw [c61]; decide) (by rw [c61]; decide) (by rw [c61]; rfl) rfl ?_
                                                                                  refine r_sub [0, 1, 2, 3] rfl ?_
                                                                                  exact wL_law_b1961 ih h
                                                                                · rcases itc h with ⟨c62, h⟩ | ⟨c62, h⟩
                                                                                  · refine r_tsIn (x := ((xs (Int32.toNatClampNeg x3)) &&& (127 : Int32))) (pc := 33) (tgt := 1994) dL_law_33 (by rw [c62]; decide) (by rw [c62]; decide) (by rw [c62]; rfl) rfl ?_
                                                                                    refine r_sub [0, 1, 2, 3] rfl ?_
                                                                                    exact wL_law_b1994 ih h
                                                                                  · rcases itc h with ⟨c63, h⟩ | ⟨c63, h⟩
                                                                                    · refine r_tsIn (x := ((xs (Int32.toNatClampNeg x3)) &&& (127 : Int32))) (pc := 33) (tgt := 2037) dL_law_33 (by rw [c63]; decide) (by rw [c63]; decide) (by rw [c63]; rfl) rfl ?_
                                                                                      refine r_sub [0, 1, 2, 3] rfl ?_
                                                                                      exact wL_law_b2037 ih h
                                                                                    · rcases itc h with ⟨c64, h⟩ | ⟨c64, h⟩
                                                                                      · refine r_tsIn (x := ((xs (Int32.toNatClampNeg x3)) &&& (127 : Int32))) (pc := 33) (tgt := 2070) dL_law_33 (by rw [c64]; decide) (by rw [c64]; decide) (by rw [c64]; rfl) rfl ?_
                                                                                        refine r_sub [0, 1, 2, 3] rfl ?_
                                                                                        exact wL_law_b2070 ih h
                                                                                      · rcases itc h with ⟨c65, h⟩ | ⟨c65, h⟩
                                                                                        · refine r_tsIn (x := ((xs (Int32.toNatClampNeg x3)) &&& (127 : Int32))) (pc := 33) (tgt := 2103) dL_law_33 (by rw [c65]; decide) (by rw [c65]; decide) (by rw [c65]; rfl) rfl ?_
                                                                                          refine r_sub [0, 1, 2, 3] rfl ?_
                                                                                          exact wL_law_b2103 ih h
                                                                                        · rcases itc h with ⟨c66, h⟩ | ⟨c66, h⟩
                                                                                          · refine r_tsIn (x := ((xs (Int32.toNatClampNeg x3)) &&& (127 : Int32))) (pc := 33) (tgt := 2126) dL_law_33 (by rw [c66]; decide) (by rw [c66]; decide) (by rw [c66]; rfl) rfl ?_
                                                                                            refine r_sub [0, 1, 2, 3] rfl ?_
                                                                                            exact wL_law_b2126 ih h
                                                                                          · rcases itc h with ⟨c67, h⟩ | ⟨c67, h⟩
                                                                                            · refine r_tsIn (x := ((xs (Int32.toNatClampNeg x3)) &&& (127 : Int32))) (pc := 33) (tgt := 2189) dL_law_33 (by rw [c67]; decide) (by rw [c67]; decide) (by rw [c67]; rfl) rfl ?_
                                                                                              refine r_sub [0, 1, 2, 3] rfl ?_
                                                                                              exact wL_law_b2189 ih h
                                                                                            · rcases itc h with ⟨c68, h⟩ | ⟨c68, h⟩
                                                                                              · refine r_tsIn (x := ((xs (Int32.toNatClampNeg x3)) &&& (127 : Int32))) (pc := 33) (tgt := 2242) dL_law_33 (by rw [c68]; decide) (by rw [c68]; decide) (by rw [c68]; rfl) rfl ?_
                                                                                                refine r_sub [0, 1, 2, 3] rfl ?_
                                                                                                exact wL_law_b2242 ih h
                                                                                              · rcases itc h with ⟨c69, h⟩ | ⟨c69, h⟩
                                                                                                · refine r_tsIn (x := ((xs (Int32.toNatClampNeg x3)) &&& (127 : Int32))) (pc := 33) (tgt := 2275) dL_law_33 (by rw [c69]; decide) (by rw [c69]; decide) (by rw [c69]; rfl) rfl ?_
                                                                                                  refine r_sub [0, 1, 2, 3] rfl ?_
                                                                                                  exact wL_law_b2275 ih h
                                                                                                · rcases itc h with ⟨c70, h⟩ | ⟨c70, h⟩
                                                                                                  · refine r_tsIn (x := ((xs (Int32.toNatClampNeg x3)) &&& (127 : Int32))) (pc := 33) (tgt := 2299) dL_law_33 (by rw [c70]; decide) (by rw [c70]; decide) (by rw [c70]; rfl) rfl ?_
                                                                                                    refine r_sub [0, 1, 2, 3] rfl ?_
                                                                                                    exact wL_law_b2299 ih h
                                                                                                  · rcases itc h with ⟨c71, h⟩ | ⟨c71, h⟩
                                                                                                    · refine r_tsIn (x := ((xs (Int32.toNatClampNeg x3)) &&& (127 : Int32))) (pc := 33) (tgt := 2332) dL_law_33 (by rw [c71]; decide) (by rw [c71]; decide) (by rw [c71]; rfl) rfl ?_
                                                                                                      refine r_sub [0, 1, 2, 3] rfl ?_
                                                                                                      exact wL_law_b2332 ih h
                                                                                                    · rcases itc h with ⟨c72, h⟩ | ⟨c72, h⟩
                                                                                                      · refine r_tsIn (x := ((xs (Int32.toNatClampNeg x3)) &&& (127 : Int32))) (pc := 33) (tgt := 2375) dL_law_33 (by rw [c72]; decide) (by rw [c72]; decide) (by rw [c72]; rfl) rfl ?_
                                                                                                        refine r_sub [0, 1, 2, 3] rfl ?_
                                                                                                        exact wL_law_b2375 ih h
                                                                                                      · rcases itc h with ⟨c73, h⟩ | ⟨c73, h⟩
                                                                                                        · refine r_tsIn (x := ((xs (Int32.toNatClampNeg x3)) &&& (127 : Int32))) (pc := 33) (tgt := 2398) dL_law_33 (by rw [c73]; decide) (by rw [c73]; decide) (by rw [c73]; rfl) rfl ?_
                                                                                                          refine r_sub [0, 1, 2, 3] rfl ?_
                                                                                                          exact wL_law_b2398 ih h
                                                                                                        · rcases itc h with ⟨c74, h⟩ | ⟨c74, h⟩
                                                                                                          · refine r_tsIn (x := ((xs (Int32.toNatClampNeg x3)) &&& (127 : Int32))) (pc := 33) (tgt := 2431) dL_law_33 (by rw [c74]; decide) (by rw [c74]; decide) (by rw [c74]; rfl) rfl ?_
                                                                                                            refine r_sub [0, 1, 2, 3] rfl ?_
                                                                                                            exact wL_law_b2431 ih h
                                                                                                          · rcases itc h with ⟨c75, h⟩ | ⟨c75, h⟩
                                                                                                            · refine r_tsIn (x := ((xs (Int32.toNatClampNeg x3)) &&& (127 : Int32))) (pc := 33) (tgt := 2454) dL_law_33 (by rw [c75]; decide) (by rw [c75]; decide) (by rw [c75]; rfl) rfl ?_
                                                                                                              refine r_sub [0, 1, 2, 3] rfl ?_
                                                                                                              exact wL_law_b2454 ih h
                                                                                                            · rcases itc h with ⟨c76, h⟩ | ⟨c76, h⟩
                                                                                                              · refine r_tsIn (x := ((xs (Int32.toNatClampNeg x3)) &&& (127 : Int32))) (pc := 33) (tgt := 2488) dL_law_33 (by rw [c76]; decide) (by rw [c76]; decide) (by rw [c76]; rfl) rfl ?_
                                                                                                                refine r_sub [0, 1, 2, 3] rfl ?_
                                                                                                                exact wL_law_b2488 ih h
                                                                                                              · rcases itc h with ⟨c77, h⟩ | ⟨c77, h⟩
                                                                                                                · refine r_tsIn (x := ((xs (Int32.toNatClampNeg x3)) &&& (127 : Int32))) (pc := 33) (tgt := 2531) dL_law_33 (by rw [c77]; decide) (by rw [c77]; decide) (by rw [c77]; rfl) rfl ?_
                                                                                                                  refine r_sub [0, 1, 2, 3] rfl ?_
                                                                                                                  exact wL_law_b2531 ih h
                                                                                                                · rcases itc h with ⟨c78, h⟩ | ⟨c78, h⟩
                                                                                                                  · refine r_tsIn (x := ((xs (Int32.toNatClampNeg x3)) &&& (127 : Int32))) (pc := 33) (tgt := 2647) dL_law_33 (by rw [c78]; decide) (by rw [c78]; decide) (by rw [c78]; rfl) rfl ?_
                                                                                                                    refine r_sub [0, 1, 2, 3] rfl ?_
                                                                                                                    exact wL_law_b2647 ih h
                                                                                                                  · rcases itc h with ⟨c79, h⟩ | ⟨c79, h⟩
                                                                                                                    · refine r_tsIn (x := ((xs (Int32.toNatClampNeg x3)) &&& (127 : Int32))) (pc := 33) (tgt := 2710) dL_law_33 (by rw [c79]; decide) (by rw [c79]; decide) (by rw [c79]; rfl) rfl ?_
                                                                                                                      refine r_sub [0, 1, 2, 3] rfl ?_
                                                                                                                      exact wL_law_b2710 ih h
                                                                                                                    · rcases itc h with ⟨c80, h⟩ | ⟨c80, h⟩
                                                                                                                      · refine r_tsIn (x := ((xs (Int32.toNatClampNeg x3)) &&& (127 : Int32))) (pc := 33) (tgt := 2754) dL_law_33 (by rw [c80]; decide) (by rw [c80]; decide) (by rw [c80]; rfl) rfl ?_
                                                                                                                        refine r_sub [0, 1, 2, 3] rfl ?_
                                                                                                                        exact wL_law_b2754 ih h
                                                                                                                      · rcases itc h with ⟨c81, h⟩ | ⟨c81, h⟩
                                                                                                                        · refine r_tsIn (x := ((xs (Int32.toNatClampNeg x3)) &&& (127 : Int32))) (pc := 33) (tgt := 2777) dL_law_33 (by rw [c81]; decide) (by rw [c81]; decide) (by rw [c81]; rfl) rfl ?_
                                                                                                                          refine r_sub [0, 1, 2, 3] rfl ?_
                                                                                                                          exact wL_law_b2777 ih h
                                                                                                                        · rcases itc h with ⟨c82, h⟩ | ⟨c82, h⟩
                                                                                                                          · refine r_tsIn (x := ((xs (Int32.toNatClampNeg x3)) &&& (127 : Int32))) (pc := 33) (tgt := 2820) dL_law_33 (by rw [c82]; decide) (by rw [c82]; decide) (by rw [c82]; rfl) rfl ?_
                                                                                                                            refine r_sub [0, 1, 2, 3] rfl ?_
                                                                                                                            exact wL_law_b2820 ih h
                                                                                                                          · rcases itc h with ⟨c83, h⟩ | ⟨c83, h⟩
                                                                                                                            · refine r_tsIn (x := ((xs (Int32.toNatClampNeg x3)) &&& (127 : Int32))) (pc := 33) (tgt := 2833) dL_law_33 (by rw [c83]; decide) (by rw [c83]; decide) (by rw [c83]; rfl) rfl ?_
                                                                                                                              refine r_sub [0, 1, 2, 3] rfl ?_
                                                                                                                              exact wL_law_b2833 ih h
                                                                                                                            · rcases itc h with ⟨c84, h⟩ | ⟨c84, h⟩
                                                                                                                              · refine r_tsIn (x := ((xs (Int32.toNatClampNeg x3)) &&& (127 : Int32))) (pc := 33) (tgt := 2867) dL_law_33 (by rw [c84]; decide) (by rw [c84]; decide) (by rw [c84]; rfl) rfl ?_
                                                                                                                                refine r_sub [0, 1, 2, 3] rfl ?_
                                                                                                                                exact wL_law_b2867 ih h
                                                                                                                              · rcases itc h with ⟨c85, h⟩ | ⟨c85, h⟩
                                                                                                                                · refine r_tsIn (x := ((xs (Int32.toNatClampNeg x3)) &&& (127 : Int32))) (pc := 33) (tgt := 2910) dL_law_33 (by rw [c85]; decide) (by rw [c85]; decide) (by rw [c85]; rfl) rfl ?_
                                                                                                                                  refine r_sub [0, 1, 2, 3] rfl ?_
                                                                                                                                  exact wL_law_b2910 ih h
                                                                                                                                · rcases itc h with ⟨c86, h⟩ | ⟨c86, h⟩
                                                                                                                                  · refine r_tsIn (x := ((xs (Int32.toNatClampNeg x3)) &&& (127 : Int32))) (pc := 33) (tgt := 2973) dL_law_33 (by rw [c86]; decide) (by rw [c86]; decide) (by rw [c86]; rfl) rfl ?_
                                                                                                                                    refine r_sub [0, 1, 2, 3] rfl ?_
                                                                                                                                    exact wL_law_b2973 ih h
                                                                                                                                  · rcases itc h with ⟨c87, h⟩ | ⟨c87, h⟩
                                                                                                                                    · refine r_tsIn (x := ((xs (Int32.toNatClampNeg x3)) &&& (127 : Int32))) (pc := 33) (tgt := 2996) dL_law_33 (by rw [c87]; decide) (by rw [c87]; decide) (by rw [c87]; rfl) rfl ?_
                                                                                                                                      refine r_sub [0, 1, 2, 3] rfl ?_
                                                                                                                                      exact wL_law_b2996 ih h
                                                                                                                                    · rcases itc h with ⟨c88, h⟩ | ⟨c88, h⟩
                                                                                                                                      · refine r_tsIn (x := ((xs (Int32.toNatClampNeg x3)) &&& (127 : Int32))) (pc := 33) (tgt := 3019) dL_law_33 (by rw [c88]; decide) (by rw [c88]; decide) (by rw [c88]; rfl) rfl ?_
                                                                                                                                        refine r_sub [0, 1, 2, 3] rfl ?_
                                                                                                                                        exact wL_law_b3019 ih h
                                                                                                                                      · rcases itc h with ⟨c89, h⟩ | ⟨c89, h⟩
                                                                                                                                        · refine r_tsIn (x := ((xs (Int32.toNatClampNeg x3)) &&& (127 : Int32))) (pc := 33) (tgt := 3052) dL_law_33 (by rw [c89]; decide) (by rw [c89]; decide) (by rw [c89]; rfl) rfl ?_
                                                                                                                                          refine r_sub [0, 1, 2, 3] rfl ?_
                                                                                                                                          exact wL_law_b3052 ih h
                                                                                                                                        · rcases itc h with ⟨c90, h⟩ | ⟨c90, h⟩
                                                                                                                                          · refine r_tsIn (x := ((xs (Int32.toNatClampNeg x3)) &&& (127 : Int32))) (pc := 33) (tgt := 3065) dL_law_33 (by rw [c90]; decide) (by rw [c90]; decide) (by rw [c90]; rfl) rfl ?_
                                                                                                                                            refine r_sub [0, 1, 2, 3] rfl ?_
                                                                                                                                            exact wL_law_b3065 ih h
                                                                                                                                          · rcases itc h with ⟨c91, h⟩ | ⟨c91, h⟩
                                                                                                                                            · refine r_tsIn (x := ((xs (Int32.toNatClampNeg x3)) &&& (127 : Int32))) (pc := 33) (tgt := 3088) dL_law_33 (by rw [c91]; decide) (by rw [c91]; decide) (by rw [c91]; rfl) rfl ?_
                                                                                                                                              refine r_sub [0, 1, 2, 3] rfl ?_
                                                                                                                                              exact wL_law_b3088 ih h
                                                                                                                                            · rcases itc h with ⟨c92, h⟩ | ⟨c92, h⟩
                                                                                                                                              · refine r_tsIn (x := ((xs (Int32.toNatClampNeg x3)) &&& (127 : Int32))) (pc := 33) (tgt := 3111) dL_law_33 (by rw [c92]; decide) (by rw [c92]; decide) (by rw [c92]; rfl) rfl ?_
                                                                                                                                                refine r_sub [0, 1, 2, 3] rfl ?_
                                                                                                                                                exact wL_law_b3111 ih h
                                                                                                                                              · rcases itc h with ⟨c93, h⟩ | ⟨c93, h⟩
                                                                                                                                                · refine r_tsIn (x := ((xs (Int32.toNatClampNeg x3)) &&& (127 : Int32))) (pc := 33) (tgt := 3124) dL_law_33 (by rw [c93]; decide) (by rw [c93]; decide) (by rw [c93]; rfl) rfl ?_
                                                                                                                                                  refine r_sub [0, 1, 2, 3] rfl ?_
                                                                                                                                                  exact wL_law_b3124 ih h
                                                                                                                                                · rcases itc h with ⟨c94, h⟩ | ⟨c94, h⟩
                                                                                                                                                  · refine r_tsIn (x := ((xs (Int32.toNatClampNeg x3)) &&& (127 : Int32))) (pc := 33) (tgt := 3158) dL_law_33 (by rw [c94]; decide) (by rw [c94]; decide) (by rw [c94]; rfl) rfl ?_
                                                                                                                                                    refine r_sub [0, 1, 2, 3] rfl ?_
                                                                                                                                                    exact wL_law_b3158 ih h
                                                                                                                                                  · rcases itc h with ⟨c95, h⟩ | ⟨c95, h⟩
                                                                                                                                                    · refine r_tsIn (x := ((xs (Int32.toNatClampNeg x3)) &&& (127 : Int32))) (pc := 33) (tgt := 3191) dL_law_33 (by rw [c95]; decide) (by rw [c95]; decide) (by rw [c95]; rfl) rfl ?_
                                                                                                                                                      refine r_sub [0, 1, 2, 3] rfl ?_
                                                                                                                                                      exact wL_law_b3191 ih h
                                                                                                                                                    · rcases itc h with ⟨c96, h⟩ | ⟨c96, h⟩
                                                                                                                                                      · refine r_tsIn (x := ((xs (Int32.toNatClampNeg x3)) &&& (127 : Int32))) (pc := 33) (tgt := 3234) dL_law_33 (by rw [c96]; decide) (by rw [c96]; decide) (by rw [c96]; rfl) rfl ?_
                                                                                                                                                        refine r_sub [0, 1, 2, 3] rfl ?_
                                                                                                                                                        exact wL_law_b3234 ih h
                                                                                                                                                      · rcases itc h with ⟨c97, h⟩ | ⟨c97, h⟩
                                                                                                                                                        · refine r_tsIn (x := ((xs (Int32.toNatClampNeg x3)) &&& (127 : Int32))) (pc := 33) (tgt := 3257) dL_law_33 (by rw [c97]; decide) (by rw [c97]; decide) (by rw [c97]; rfl) rfl ?_
                                                                                                                                                          refine r_sub [0, 1, 2, 3] rfl ?_
                                                                                                                                                          exact wL_law_b3257 ih h
                                                                                                                                                        · refine r_tsOut (x := ((xs (Int32.toNatClampNeg x3)) &&& (127 : Int32))) (pc := 33) (tgt := 3270) dL_law_33 (by have ec24 := i32n c24 (k := 0) rfl; have ec25 := i32n c25 (k := 1) rfl; have ec26 := i32n c26 (k := 2) rfl; have ec27 := i32n c27 (k := 3) rfl; have ec28 := i32n c28 (k := 4) rfl; have ec29 := i32n c29 (k := 5) rfl; have ec30 := i32n c30 (k := 6) rfl; have ec31 := i32n c31 (k := 7) rfl; have ec32 := i32n c32 (k := 8) rfl; have ec33 := i32n c33 (k := 9) rfl; have ec34 := i32n c34 (k := 10) rfl; have ec35 := i32n c35 (k := 11) rfl; have ec36 := i32n c36 (k := 12) rfl; have ec37 := i32n c37 (k := 13) rfl; have ec38 := i32n c38 (k := 14) rfl; have ec39 := i32n c39 (k := 15) rfl; have ec40 := i32n c40 (k := 16) rfl; have ec41 := i32n c41 (k := 17) rfl; have ec42 := i32n c42 (k := 18) rfl; have ec43 := i32n c43 (k := 19) rfl; have ec44 := i32n c44 (k := 20) rfl; have ec45 := i32n c45 (k := 21) rfl; have ec46 := i32n c46 (k := 22) rfl; have ec47 := i32n c47 (k := 23) rfl; have ec48 := i32n c48 (k := 24) rfl; have ec49 := i32n c49 (k := 25) rfl; have ec50 := i32n c50 (k := 26) rfl; have ec51 := i32n c51 (k := 27) rfl; have ec52 := i32n c52 (k := 28) rfl; have ec53 := i32n c53 (k := 29) rfl; have ec54 := i32n c54 (k := 30) rfl; have ec55 := i32n c55 (k := 31) rfl; have ec56 := i32n c56 (k := 32) rfl; have ec57 := i32n c57 (k := 33) rfl; have ec58 := i32n c58 (k := 34) rfl; have ec59 := i32n c59 (k := 35) rfl; have ec60 := i32n c60 (k := 36) rfl; have ec61 := i32n c61 (k := 37) rfl; have ec62 := i32n c62 (k := 38) rfl; have ec63 := i32n c63 (k := 39) rfl; have ec64 := i32n c64 (k := 40) rfl; have ec65 := i32n c65 (k := 41) rfl; have ec66 := i32n c66 (k := 42) rfl; have ec67 := i32n c67 (k := 43) rfl; have ec68 := i32n c68 (k := 44) rfl; have ec69 := i32n c69 (k := 45) rfl; have ec70 := i32n c70 (k := 46) rfl; have ec71 := i32n c71 (k := 47) rfl; have ec72 := i32n c72 (k := 48) rfl; have ec73 := i32n c73 (k := 49) rfl; have ec74 := i32n c74 (k := 50) rfl; have ec75 := i32n c75 (k := 51) rfl; have ec76 := i32n c76 (k := 52) rfl; have ec77 := i32n c77 (k := 53) rfl; have ec78 := i32n c78 (k := 54) rfl; have ec79 := i32n c79 (k := 55) rfl; have ec80 := i32n c80 (k := 56) rfl; have ec81 := i32n c81 (k := 57) rfl; have ec82 := i32n c82 (k := 58) rfl; have ec83 := i32n c83 (k := 59) rfl; have ec84 := i32n c84 (k := 60) rfl; have ec85 := i32n c85 (k := 61) rfl; have ec86 := i32n c86 (k := 62) rfl; have ec87 := i32n c87 (k := 63) rfl; have ec88 := i32n c88 (k := 64) rfl; have ec89 := i32n c89 (k := 65) rfl; have ec90 := i32n c90 (k := 66) rfl; have ec91 := i32n c91 (k := 67) rfl; have ec92 := i32n c92 (k := 68) rfl; have ec93 := i32n c93 (k := 69) rfl; have ec94 := i32n c94 (k := 70) rfl; have ec95 := i32n c95 (k := 71) rfl; have ec96 := i32n c96 (k := 72) rfl; have ec97 := i32n c97 (k := 73) rfl; omega) rfl ?_
                                                                                                                                                          refine r_iinc (pc := 3270) (v := (x3 + (7 : Int32))) (L' := [(3, vI (x3 + (7 : Int32))), (0, vR (some 3)), (1, vR x1), (2, vR x2)]) dL_law_3270 3 rfl (kc_inc_7 _) (by decide) rfl ?_
                                                                                                                                                          refine r_goto (pc := 3273) (tgt := 18) dL_law_3273 rfl ?_
                                                                                                                                                          refine r_sub [1, 2, 3, 0] rfl ?_
                                                                                                                                                          exact ih _ _ _ _ _ _ _ _ h
def fL_law (xs : Nat → Int32) (Lg : Nat) (σ : Shp) (I : Nat → Nat → Int32) (J : Nat → Nat → Int64) (D : Nat → Nat → UInt64) (R : Nat → Nat → Option Nat) : Option Unit :=
  let σ1 := mkO σ 12 20
  if nxx σ1 ≤ 600000 ∧ slx σ1 ≤ 7300000 then
  if kdx σ1 (nxx σ + 4) = 12 then
  (fX11_init σ1 I J D R (nxx σ + 4)).bind fun (σ4, I5, J6, D7, R8) =>
  if nxx σ4 ≤ 600000 ∧ slx σ4 ≤ 7300000 then
  let v11 := (some (nxx σ + 4))
  let σ12 := mkO σ4 13 135
  if nxx σ12 ≤ 600000 ∧ slx σ12 ≤ 7300000 then
  if kdx σ12 (nxx σ4 + 4) = 13 then
  (fX12_init σ12 I5 J6 D7 R8 (nxx σ4 + 4)).bind fun (σ15, I16, J17, D18, R19) =>
  if nxx σ15 ≤ 600000 ∧ slx σ15 ≤ 7300000 then
  let v22 := (some (nxx σ4 + 4))
  fL_law_l18 xs Lg FUx σ15 I16 J17 D18 R19 v11 v22 (0 : Int32)
  else none
  else none
  else none
  else none
  else none
  else none
theorem kL_law {G : Gx} {l : Launch} {xs : Nat → Int32} {Lg : Nat} {σ0 : Shp} {σ : Shp} {I : Nat → Nat → Int32} {J : Nat → Nat → Int64} {D : Nat → Nat → UInt64} {R : Nat → Nat → Option Nat} (h : fL_law xs Lg σ I J D R = some ()) : WLaw G l xs Lg σ0 (σ, I, J, D, R) 0 [(0, vR (some 3))] [] := by
  unfold fL_law at h
  obtain ⟨g2, h⟩ := gd h
  refine r_new (pc := 0) dL_law_0 cls11 ftk11 cnL_7 ins11 ini11 (Nat.le_trans (Nat.sub_le _ _) (Nat.le_trans g2.1 (by decide))) (Nat.le_trans (Nat.sub_le _ _) (Nat.le_trans g2.2 (by decide))) ?_
  refine r_dup (pc := 3) dL_law_3 rfl ?_
  obtain ⟨g3, h⟩ := gd h
  obtain ⟨⟨σ4, I5, J6, D7, R8⟩, hc9, h⟩ := ob h
  obtain ⟨g10, h⟩ := gd h
  refine r_callI0 (pc := 4) (av := []) (S := [vR (some (nxx σ + 4))]) dL_law_4 (kX11_init hc9) mkL_9 rfl mwX11_init rfl ⟨Nat.le_of_ble_eq_true rfl, Nat.le_of_ble_eq_true rfl⟩ (Nat.le_of_ble_eq_true rfl) (mX11_init hc9) (bdL (mX11_init hc9) g10) ?_
  refine r_astore_n (pc := 7) (L' := [(1, vR (some (nxx σ + 4))), (0, vR (some 3))]) dL_law_7 rfl (by decide) rfl ?_
  obtain ⟨g13, h⟩ := gd h
  refine r_new (pc := 8) dL_law_8 cls12 ftk12 cnL_10 ins12 ini12 (Nat.le_trans (Nat.sub_le _ _) (Nat.le_trans g13.1 (by decide))) (Nat.le_trans (Nat.sub_le _ _) (Nat.le_trans g13.2 (by decide))) ?_
  refine r_dup (pc := 11) dL_law_11 rfl ?_
  obtain ⟨g14, h⟩ := gd h
  obtain ⟨⟨σ15, I16, J17, D18, R19⟩, hc20, h⟩ := ob h
  obtain ⟨g21, h⟩ := gd h
  refine r_callI0 (pc := 12) (av := []) (S := [vR (some (nxx σ4 + 4))]) dL_law_12 (kX12_init hc20) mkL_12 rfl mwX12_init rfl ⟨Nat.le_of_ble_eq_true rfl, Nat.le_of_ble_eq_true rfl⟩ (Nat.le_of_ble_eq_true rfl) (mX12_init hc20) (bdL (mX12_init hc20) g21) ?_
  refine r_astore_n (pc := 15) (L' := [(2, vR (some (nxx σ4 + 4))), (1, vR (some (nxx σ + 4))), (0, vR (some 3))]) dL_law_15 rfl (by decide) rfl ?_
  refine r_iconst (pc := 16) dL_law_16 kc_iconst_0 ?_
  refine r_istore_n (pc := 17) (L' := [(3, vI (0 : Int32)), (2, vR (some (nxx σ4 + 4))), (1, vR (some (nxx σ + 4))), (0, vR (some 3))]) dL_law_17 rfl (by decide) rfl ?_
  refine r_sub [3, 2, 1, 0] rfl ?_
  exact wL_law_l18 _ _ _ _ _ _ _ _ _ h
