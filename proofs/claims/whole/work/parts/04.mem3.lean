/-! ===== fields written, by their types ===== -/
section RWG
variable {G : Gx} {l : Launch} {y : MethodName} {cc : ByteArray} {nL : Nat} {rty : Option FieldType} {Ex : State → Prop} {RR : Room} {σ0 : Shp} {QQ : List Frame → Array Value → State → State → Prop} {pc : Nat} {L : List (Nat × SV)} {S : List SV} {σ : Shp} {I : Nat → Nat → Int32} {J : Nat → Nat → Int64} {D : Nat → Nat → UInt64} {R : Nat → Nat → Option Nat}
theorem fvx_offI {a k : Nat} {x : Int32} (ty : FieldType) (j : Nat) (hj : j ≠ k) : fvx G (σ, u2 I a k x, J, D, R) ty a j = fvx G (σ, I, J, D, R) ty a j := by
  unfold fvx
  have e : u2 I a k x a j = I a j := u2_ne (fun _ => hj)
  simp only [e]
theorem fvx_offL {a k : Nat} {x : Int64} (ty : FieldType) (j : Nat) (hj : j ≠ k) : fvx G (σ, I, u2 J a k x, D, R) ty a j = fvx G (σ, I, J, D, R) ty a j := by
  unfold fvx
  have e : u2 J a k x a j = J a j := u2_ne (fun _ => hj)
  simp only [e]
theorem fvx_offD {a k : Nat} {x : UInt64} (ty : FieldType) (j : Nat) (hj : j ≠ k) : fvx G (σ, I, J, u2 D a k x, R) ty a j = fvx G (σ, I, J, D, R) ty a j := by
  unfold fvx
  have e : u2 D a k x a j = D a j := u2_ne (fun _ => hj)
  simp only [e]
theorem fvx_offR {a k : Nat} {x : Option Nat} (ty : FieldType) (j : Nat) (hj : j ≠ k) : fvx G (σ, I, J, D, u2 R a k x) ty a j = fvx G (σ, I, J, D, R) ty a j := by
  unfold fvx
  have e : u2 R a k x a j = R a j := u2_ne (fun _ => hj)
  simp only [e]
theorem fits_rf (ty : FieldType) (hty : (∃ n, ty = .object n) ∨ ∃ t, ty = .array t) (r : Option Nat) : narrow ty (va_rf r) = va_rf r ∧ fits ty (va_rf r) = true := by
  rcases hty with ⟨n, rfl⟩ | ⟨t, rfl⟩ <;> cases r <;> exact ⟨rfl, rfl⟩
theorem r_putI {a i c k : Nat} {x : Int32} (hd : decode cc pc = .ok (.putfield i, 3)) (hF : Flk y.cls i c k) (ht : fty c k = .int) (hk : kdx σ a = c + 1) (h : Wm G l y cc nL rty Ex RR σ0 QQ (σ, u2 I a k x, J, D, R) (pc + 3) L S) : Wm G l y cc nL rty Ex RR σ0 QQ (σ, I, J, D, R) pc L (vI x :: vR (some a) :: S) :=
  r_put (X := (σ, I, J, D, R)) (X' := (σ, u2 I a k x, J, D, R)) hd hF hk rfl (by rw [ht]; rfl) (by rw [ht]; rfl) (by rw [ht]; show Value.int (u2 I a k x a k) = _; rw [u2_self]; rfl) (fun ty j hj => fvx_offI ty j hj) (fun b hb => ⟨u2_off hb, rfl, rfl, rfl⟩) h
theorem r_putIF {a i c k : Nat} {x : Int32} (hd : decode cc pc = .ok (.putfield i, 3)) (hF : FlkF y.cls i c k) (hinit : y.name = "<init>") (ht : fty c k = .int) (hk : kdx σ a = c + 1) (h : Wm G l y cc nL rty Ex RR σ0 QQ (σ, u2 I a k x, J, D, R) (pc + 3) L S) : Wm G l y cc nL rty Ex RR σ0 QQ (σ, I, J, D, R) pc L (vI x :: vR (some a) :: S) :=
  r_putF (X := (σ, I, J, D, R)) (X' := (σ, u2 I a k x, J, D, R)) hd hF hinit hk rfl (by rw [ht]; rfl) (by rw [ht]; rfl) (by rw [ht]; show Value.int (u2 I a k x a k) = _; rw [u2_self]; rfl) (fun ty j hj => fvx_offI ty j hj) (fun b hb => ⟨u2_off hb, rfl, rfl, rfl⟩) h
theorem r_putZ {a i c k : Nat} {x : Int32} (hd : decode cc pc = .ok (.putfield i, 3)) (hF : Flk y.cls i c k) (ht : fty c k = .boolean) (hz : x = 0 ∨ x = 1) (hk : kdx σ a = c + 1) (h : Wm G l y cc nL rty Ex RR σ0 QQ (σ, u2 I a k x, J, D, R) (pc + 3) L S) : Wm G l y cc nL rty Ex RR σ0 QQ (σ, I, J, D, R) pc L (vI x :: vR (some a) :: S) :=
  r_put (X := (σ, I, J, D, R)) (X' := (σ, u2 I a k x, J, D, R)) hd hF hk rfl (by rw [ht]; rcases hz with rfl | rfl <;> rfl) (by rw [ht]; rcases hz with rfl | rfl <;> rfl) (by rw [ht]; show Value.int (u2 I a k x a k) = _; rw [u2_self]; rfl) (fun ty j hj => fvx_offI ty j hj) (fun b hb => ⟨u2_off hb, rfl, rfl, rfl⟩) h
theorem r_putL {a i c k : Nat} {x : Int64} (hd : decode cc pc = .ok (.putfield i, 3)) (hF : Flk y.cls i c k) (ht : fty c k = .long) (hk : kdx σ a = c + 1) (h : Wm G l y cc nL rty Ex RR σ0 QQ (σ, I, u2 J a k x, D, R) (pc + 3) L S) : Wm G l y cc nL rty Ex RR σ0 QQ (σ, I, J, D, R) pc L (vL x :: vR (some a) :: S) :=
  r_put (X := (σ, I, J, D, R)) (X' := (σ, I, u2 J a k x, D, R)) hd hF hk rfl (by rw [ht]; rfl) (by rw [ht]; rfl) (by rw [ht]; show Value.long (u2 J a k x a k) = _; rw [u2_self]; rfl) (fun ty j hj => fvx_offL ty j hj) (fun b hb => ⟨rfl, u2_off hb, rfl, rfl⟩) h
theorem r_putD {a i c k : Nat} {x : UInt64} (hd : decode cc pc = .ok (.putfield i, 3)) (hF : Flk y.cls i c k) (ht : fty c k = .double) (hk : kdx σ a = c + 1) (h : Wm G l y cc nL rty Ex RR σ0 QQ (σ, I, J, u2 D a k x, R) (pc + 3) L S) : Wm G l y cc nL rty Ex RR σ0 QQ (σ, I, J, D, R) pc L (vD x :: vR (some a) :: S) :=
  r_put (X := (σ, I, J, D, R)) (X' := (σ, I, J, u2 D a k x, R)) hd hF hk rfl (by rw [ht]; rfl) (by rw [ht]; rfl) (by rw [ht]; show Value.double (u2 D a k x a k) = _; rw [u2_self]; rfl) (fun ty j hj => fvx_offD ty j hj) (fun b hb => ⟨rfl, rfl, u2_off hb, rfl⟩) h
theorem ftg3 {c k : Nat} (h : ftg c k = 3) : (∃ n, fty c k = .object n) ∨ ∃ t, fty c k = .array t := by
  unfold ftg at h
  split at h <;> simp_all
theorem r_putR {a i c k : Nat} {x : Option Nat} (hd : decode cc pc = .ok (.putfield i, 3)) (hF : Flk y.cls i c k) (ht : ftg c k = 3) (hk : kdx σ a = c + 1) (h : Wm G l y cc nL rty Ex RR σ0 QQ (σ, I, J, D, u2 R a k x) (pc + 3) L S) : Wm G l y cc nL rty Ex RR σ0 QQ (σ, I, J, D, R) pc L (vR x :: vR (some a) :: S) :=
  r_put (X := (σ, I, J, D, R)) (X' := (σ, I, J, D, u2 R a k x)) hd hF hk rfl (fits_rf _ (ftg3 ht) _).1 (fits_rf _ (ftg3 ht) _).2 (by rw [fvx_R ht]; show va_rf ((u2 R a k x a k).map _) = _; rw [u2_self]; rfl) (fun ty j hj => fvx_offR ty j hj) (fun b hb => ⟨rfl, rfl, rfl, u2_off hb⟩) h
theorem r_putRF {a i c k : Nat} {x : Option Nat} (hd : decode cc pc = .ok (.putfield i, 3)) (hF : FlkF y.cls i c k) (hinit : y.name = "<init>") (ht : ftg c k = 3) (hk : kdx σ a = c + 1) (h : Wm G l y cc nL rty Ex RR σ0 QQ (σ, I, J, D, u2 R a k x) (pc + 3) L S) : Wm G l y cc nL rty Ex RR σ0 QQ (σ, I, J, D, R) pc L (vR x :: vR (some a) :: S) :=
  r_putF (X := (σ, I, J, D, R)) (X' := (σ, I, J, D, u2 R a k x)) hd hF hinit hk rfl (fits_rf _ (ftg3 ht) _).1 (fits_rf _ (ftg3 ht) _).2 (by rw [fvx_R ht]; show va_rf ((u2 R a k x a k).map _) = _; rw [u2_self]; rfl) (fun ty j hj => fvx_offR ty j hj) (fun b hb => ⟨rfl, rfl, rfl, u2_off hb⟩) h
def okR (σ : Shp) (t : Nat) (r : Option Nat) : Bool := match r with
  | none => true
  | some a => kdx σ a == t
theorem r_aastore {a t c : Nat} {i : Int32} {r : Option Nat} (hd : decode cc pc = .ok (.aastore, 1)) (hk : kdx σ a = t) (ht : (t = 26 ∧ c = 10) ∨ (t = 27 ∧ c = 3)) (hi : vp_in i (lnx σ a)) (hr : okR σ (c + 1) r = true) (h : Wm G l y cc nL rty Ex RR σ0 QQ (σ, I, J, D, u2 R a i.toNatClampNeg r) (pc + 1) L S) : Wm G l y cc nL rty Ex RR σ0 QQ (σ, I, J, D, R) pc L (vR r :: vI i :: vR (some a) :: S) := by
  intro p e s m args below meth c0 H locs ls C hB hP hl
  have hnz : kdx (σ, I, J, D, R).1 a ≠ 0 := by rw [hk]; omega
  have ha0 : a ≠ 0 := kd_not0 hP.1 hk (by omega)
  have hat := (hP.1.1 a hnz ha0).2.2
  rw [cEx_ref hk (by omega)] at hat
  have hlt : i.toNatClampNeg < lnx σ a := Nat.not_le.mp fun q => hi (Or.inr q)
  have h0 : ¬ i < 0 := fun q => hi (Or.inl q)
  have hK := C.2.2.2.2.1.1
  have hcell : ∀ (H1 : Heap), H1[adx G a]? = some ((vp_cell (G.2.1 t) (lnx σ a, .inr (.inr (.inr (.inr (fun j => (R a j).map (adx G))))))).setSlot i.toNatClampNeg (va_rf (r.map (adx G)))) → va_at G.1 vwCl (adx G a, cEx G (σ, I, J, D, u2 R a i.toNatClampNeg r) a) H1 := by
    intro H1 e1
    rw [cEx_ref hk (by omega)]
    show H1[_]? = some (vp_cell _ _)
    rw [e1, vp_cell_q, vp_cell_q, arrV_store]
    congr 2
    funext q
    by_cases hq : q = i.toNatClampNeg
    · subst hq
      simp [updV, u2]
    · simp [updV, u2, hq]
  have key : ∀ (t0 : Nat) (C1 : String) (T1 : u_T) (N1 : Nat), (tysx G)[t0]? = some (G.2.1 t, .object C1) → vwCl[c]? = some (C1, T1, N1) → c < 13 → W p l e RR s m args below meth c0 H locs (nxx σ - nxx σ0) (slx σ - slx σ0) (QQ below args s) (F0 m pc ls ((vR r :: vI i :: vR (some a) :: S).map (cvx G))) := by
    intro t0 C1 T1 N1 hty hcl hc13
    cases r with
    | none =>
      refine va_WaastN (C := C1) C.1.1 C.1.2.1 hat ((hK.2 t0 _ hty).1 (lnx σ a) (fun j => va_rf ((R a j).map (adx G)))) (fun h => by cases h) (by show ¬ (i < 0 ∨ (arrV _ _ _).slots.size ≤ _); rw [arrV_size]; exact hi) rfl rfl hd fun H1 e1 z1 oq => ?_
      exact h p e s m args below meth c0 H1 _ ls C hB (Hpx_put (X' := (σ, I, J, D, u2 R a i.toNatClampNeg none)) hP hnz ha0 rfl z1 oq (hcell H1 e1) (fun b hb => ⟨rfl, rfl, rfl, u2_off hb⟩)) hl
    | some b =>
      have hkb : kdx σ b = c + 1 := by simpa [okR] using hr
      have hatb := (hP.1.1 b (by rw [hkb]; omega) (kd_not0 hP.1 hkb (by omega))).2.2
      rw [cEx_obj hkb hc13] at hatb
      obtain ⟨r', hr', cellV, g1, g2, g3, -⟩ := hatb
      have hcls := (hK.1 c _ hcl).2
      obtain ⟨kA, comp, k1, k2, k3, -⟩ := (hK.2 t0 _ hty).2
      have hcomp : comp = G.1.1 c := Option.some.inj (k3.symm.trans hcls.1)
      subst hcomp
      obtain ⟨kC, hkC, -⟩ := hcls.2
      refine W.aast C.1.1 C.1.2.1 hat (fun q h => by cases h) (fun h => by cases h) k1 k2 rfl hkC ⟨h0, by show _ < (arrV _ _ _).slots.size; rw [arrV_size]; exact hlt⟩ g1 (fun q h => by rw [g3] at h; cases h) (by rw [g2]; exact hkC) (by rw [g2]; exact va_assign hcls) rfl rfl hd fun H1 e1 z1 oq => ?_
      exact h p e s m args below meth c0 H1 _ ls C hB (Hpx_put (X' := (σ, I, J, D, u2 R a i.toNatClampNeg (some b))) hP hnz ha0 rfl z1 oq (hcell H1 e1) (fun b hb => ⟨rfl, rfl, rfl, u2_off hb⟩)) hl
  rcases ht with ⟨rfl, rfl⟩ | ⟨rfl, rfl⟩
  · exact key 6 _ _ _ rfl rfl (by decide)
  · exact key 7 _ _ _ rfl rfl (by decide)
end RWG
section RWN
variable {G : Gx} {l : Launch} {y : MethodName} {cc : ByteArray} {nL : Nat} {rty : Option FieldType} {Ex : State → Prop} {RR : Room} {σ0 : Shp} {QQ : List Frame → Array Value → State → State → Prop} {X : Stt} {pc : Nat} {L : List (Nat × SV)} {S : List SV}
theorem r_ifnull_n {off : Int} {tgt : Nat} (hd : decode cc pc = .ok (.ifnull off, 3)) (ht : (pc : Int) + off = (tgt : Int)) (h : Wm G l y cc nL rty Ex RR σ0 QQ X tgt L S) : Wm G l y cc nL rty Ex RR σ0 QQ X pc L (vR none :: S) :=
  fun p e s m args below meth c H locs ls C hB hP hl => lv_ifnullN C.1.1 C.1.2.1 hd ht (h p e s m args below meth c H locs ls C hB hP hl)
theorem r_ifnull_s {off : Int} {a : Nat} (hd : decode cc pc = .ok (.ifnull off, 3)) (h : Wm G l y cc nL rty Ex RR σ0 QQ X (pc + 3) L S) : Wm G l y cc nL rty Ex RR σ0 QQ X pc L (vR (some a) :: S) :=
  fun p e s m args below meth c H locs ls C hB hP hl => lv_ifnull C.1.1 C.1.2.1 hd (h p e s m args below meth c H locs ls C hB hP hl)
theorem r_ifnonnull_n {off : Int} (hd : decode cc pc = .ok (.ifnonnull off, 3)) (h : Wm G l y cc nL rty Ex RR σ0 QQ X (pc + 3) L S) : Wm G l y cc nL rty Ex RR σ0 QQ X pc L (vR none :: S) :=
  fun p e s m args below meth c H locs ls C hB hP hl => lv_ifnonnullN C.1.1 C.1.2.1 hd (h p e s m args below meth c H locs ls C hB hP hl)
theorem r_ifnonnull_s {off : Int} {tgt a : Nat} (hd : decode cc pc = .ok (.ifnonnull off, 3)) (ht : (pc : Int) + off = (tgt : Int)) (h : Wm G l y cc nL rty Ex RR σ0 QQ X tgt L S) : Wm G l y cc nL rty Ex RR σ0 QQ X pc L (vR (some a) :: S) :=
  fun p e s m args below meth c H locs ls C hB hP hl => lv_ifnonnull C.1.1 C.1.2.1 hd ht (h p e s m args below meth c H locs ls C hB hP hl)
theorem okR_inj {G : Gx} {X : Stt} {H : Heap} (hX : Hx G X H) {t : Nat} (ht : t ≠ 0) (ht2 : t ≠ 21) {r r' : Option Nat} (h : okR X.1 t r = true) (h' : okR X.1 t r' = true) : r.map (adx G) = r'.map (adx G) ↔ r = r' := by
  cases r with
  | none => cases r' <;> simp
  | some a =>
    cases r' with
    | none => simp
    | some b =>
      have ha : kdx X.1 a = t := by simpa [okR] using h
      have hb : kdx X.1 b = t := by simpa [okR] using h'
      have h1 := (hX.1 a (by rw [ha]; exact ht) (kd_not0 hX ha ht2)).1
      have h2 := (hX.1 b (by rw [hb]; exact ht) (kd_not0 hX hb ht2)).1
      simp only [Option.map_some, Option.some.injEq]
      exact ⟨fun q => adx_inj h1 h2 q, fun q => by rw [q]⟩
theorem r_acmp_ne {r r' : Option Nat} {off : Int} {tgt t : Nat} (hd : decode cc pc = .ok (.if_acmp .ne off, 3)) (ht : (pc : Int) + off = (tgt : Int)) (h0 : t ≠ 0) (h21 : t ≠ 21) (h1 : okR X.1 t r = true) (h2 : okR X.1 t r' = true) (kt : ¬ r = r' → Wm G l y cc nL rty Ex RR σ0 QQ X tgt L S) (kf : r = r' → Wm G l y cc nL rty Ex RR σ0 QQ X (pc + 3) L S) : Wm G l y cc nL rty Ex RR σ0 QQ X pc L (vR r' :: vR r :: S) :=
  fun p e s m args below meth c H locs ls C hB hP hl => lv_acmp_ne (rx := r.map (adx G)) (ry := r'.map (adx G)) C.1.1 C.1.2.1 hd ht
    (fun q => kt (fun z => q ((okR_inj hP.1 h0 h21 h1 h2).mpr z)) p e s m args below meth c H locs ls C hB hP hl)
    (fun q => kf ((okR_inj hP.1 h0 h21 h1 h2).mp q) p e s m args below meth c H locs ls C hB hP hl)
theorem r_tsIn {dflt lo hi : Int} {offs : Array Int} {len : Nat} {x : Int32} {off : Int} {tgt : Nat} (hd : decode cc pc = .ok (.tableswitch dflt lo hi offs, len)) (h1 : ¬ x.toInt < lo) (h2 : ¬ hi < x.toInt) (ho : offs[(x.toInt - lo).toNat]? = some off) (ht : (pc : Int) + off = (tgt : Int)) (h : Wm G l y cc nL rty Ex RR σ0 QQ X tgt L S) : Wm G l y cc nL rty Ex RR σ0 QQ X pc L (vI x :: S) :=
  fun p e s m args below meth c H locs ls C hB hP hl => lv_tableIn C.1.1 C.1.2.1 hd h1 h2 ho ht (h p e s m args below meth c H locs ls C hB hP hl)
theorem r_tsOut {dflt lo hi : Int} {offs : Array Int} {len : Nat} {x : Int32} {tgt : Nat} (hd : decode cc pc = .ok (.tableswitch dflt lo hi offs, len)) (ho : x.toInt < lo ∨ hi < x.toInt) (ht : (pc : Int) + dflt = (tgt : Int)) (h : Wm G l y cc nL rty Ex RR σ0 QQ X tgt L S) : Wm G l y cc nL rty Ex RR σ0 QQ X pc L (vI x :: S) :=
  fun p e s m args below meth c H locs ls C hB hP hl => lv_tableOut C.1.1 C.1.2.1 hd ho ht (h p e s m args below meth c H locs ls C hB hP hl)
theorem r_ifne {a : Int32} {off : Int} {tgt : Nat} (hd : decode cc pc = .ok (.ifCond .ne off, 3)) (ht : (pc : Int) + off = (tgt : Int)) (kt : ¬ a = 0 → Wm G l y cc nL rty Ex RR σ0 QQ X tgt L S) (kf : a = 0 → Wm G l y cc nL rty Ex RR σ0 QQ X (pc + 3) L S) : Wm G l y cc nL rty Ex RR σ0 QQ X pc L (vI a :: S) :=
  fun p e s m args below meth c H locs ls C hB hP hl => lv_if_ne C.1.1 C.1.2.1 hd ht (fun q => kt q p e s m args below meth c H locs ls C hB hP hl) (fun q => kf q p e s m args below meth c H locs ls C hB hP hl)
theorem r_icmp_ne {a b : Int32} {off : Int} {tgt : Nat} (hd : decode cc pc = .ok (.if_icmp .ne off, 3)) (ht : (pc : Int) + off = (tgt : Int)) (kt : ¬ a = b → Wm G l y cc nL rty Ex RR σ0 QQ X tgt L S) (kf : a = b → Wm G l y cc nL rty Ex RR σ0 QQ X (pc + 3) L S) : Wm G l y cc nL rty Ex RR σ0 QQ X pc L (vI b :: vI a :: S) :=
  fun p e s m args below meth c H locs ls C hB hP hl => lv_icmp_ne C.1.1 C.1.2.1 hd ht (fun q => kt q p e s m args below meth c H locs ls C hB hP hl) (fun q => kf q p e s m args below meth c H locs ls C hB hP hl)
theorem r_ifge {a : Int32} {off : Int} {tgt : Nat} (hd : decode cc pc = .ok (.ifCond .ge off, 3)) (ht : (pc : Int) + off = (tgt : Int)) (kt : 0 ≤ a → Wm G l y cc nL rty Ex RR σ0 QQ X tgt L S) (kf : ¬ 0 ≤ a → Wm G l y cc nL rty Ex RR σ0 QQ X (pc + 3) L S) : Wm G l y cc nL rty Ex RR σ0 QQ X pc L (vI a :: S) :=
  fun p e s m args below meth c H locs ls C hB hP hl => lv_if_ge C.1.1 C.1.2.1 hd ht (fun q => kt q p e s m args below meth c H locs ls C hB hP hl) (fun q => kf q p e s m args below meth c H locs ls C hB hP hl)
theorem r_icmp_ge {a b : Int32} {off : Int} {tgt : Nat} (hd : decode cc pc = .ok (.if_icmp .ge off, 3)) (ht : (pc : Int) + off = (tgt : Int)) (kt : b ≤ a → Wm G l y cc nL rty Ex RR σ0 QQ X tgt L S) (kf : ¬ b ≤ a → Wm G l y cc nL rty Ex RR σ0 QQ X (pc + 3) L S) : Wm G l y cc nL rty Ex RR σ0 QQ X pc L (vI b :: vI a :: S) :=
  fun p e s m args below meth c H locs ls C hB hP hl => lv_icmp_ge C.1.1 C.1.2.1 hd ht (fun q => kt q p e s m args below meth c H locs ls C hB hP hl) (fun q => kf q p e s m args below meth c H locs ls C hB hP hl)
theorem r_ifgt {a : Int32} {off : Int} {tgt : Nat} (hd : decode cc pc = .ok (.ifCond .gt off, 3)) (ht : (pc : Int) + off = (tgt : Int)) (kt : 0 < a → Wm G l y cc nL rty Ex RR σ0 QQ X tgt L S) (kf : ¬ 0 < a → Wm G l y cc nL rty Ex RR σ0 QQ X (pc + 3) L S) : Wm G l y cc nL rty Ex RR σ0 QQ X pc L (vI a :: S) :=
  fun p e s m args below meth c H locs ls C hB hP hl => lv_if_gt C.1.1 C.1.2.1 hd ht (fun q => kt q p e s m args below meth c H locs ls C hB hP hl) (fun q => kf q p e s m args below meth c H locs ls C hB hP hl)
theorem r_icmp_gt {a b : Int32} {off : Int} {tgt : Nat} (hd : decode cc pc = .ok (.if_icmp .gt off, 3)) (ht : (pc : Int) + off = (tgt : Int)) (kt : b < a → Wm G l y cc nL rty Ex RR σ0 QQ X tgt L S) (kf : ¬ b < a → Wm G l y cc nL rty Ex RR σ0 QQ X (pc + 3) L S) : Wm G l y cc nL rty Ex RR σ0 QQ X pc L (vI b :: vI a :: S) :=
  fun p e s m args below meth c H locs ls C hB hP hl => lv_icmp_gt C.1.1 C.1.2.1 hd ht (fun q => kt q p e s m args below meth c H locs ls C hB hP hl) (fun q => kf q p e s m args below meth c H locs ls C hB hP hl)
end RWN
/-! ===== returns ===== -/
section RWR
variable {G : Gx} {l : Launch} {y : MethodName} {cc : ByteArray} {nL : Nat} {rty : Option FieldType} {Ex : State → Prop} {RR : Room} {σ0 : Shp} {X : Stt} {pc : Nat} {L : List (Nat × SV)}
theorem retQ {s : State} {args : Array Value} {H : Heap} {locs : List Loc} {v : Option SV} (hP : Hpx G s X H locs) : (∀ t : State, t.heap = H → s.WarmedH t.vm → Qxx G X v args s (.returned (v.map (cvx G))) t) ∧ ∀ q ∈ locs, Az G q.base :=
  ⟨fun t ht _ => ⟨rfl, by rw [ht]; exact hP.1, hP.2.F ht⟩, fun q hq => hP.2.2.2 q hq⟩
theorem r_iret {v : Int32} (hd : decode cc pc = .ok (.ireturn, 1)) : Wm G l y cc nL (some .int) Ex RR σ0 (Qmx G σ0 X (some (vI v))) X pc L [vI v] :=
  fun p e s m args below meth c H locs ls C hB hP hl => W.iret C.1.1 C.1.2.1 C.2.1 (retQ (v := some (vI v)) hP).1 (retQ (v := some (vI v)) (args := args) hP).2 hd C.2.2.1
theorem r_zret {v : Int32} (hd : decode cc pc = .ok (.ireturn, 1)) (hz : v = 0 ∨ v = 1) : Wm G l y cc nL (some .boolean) Ex RR σ0 (Qmx G σ0 X (some (vI v))) X pc L [vI v] :=
  fun p e s m args below meth c H locs ls C hB hP hl => W.zret C.1.1 C.1.2.1 C.2.1 (by rcases hz with rfl | rfl <;> rfl) (retQ (v := some (vI v)) hP).1 (retQ (v := some (vI v)) (args := args) hP).2 hd C.2.2.1
theorem r_lret {v : Int64} (hd : decode cc pc = .ok (.lreturn, 1)) : Wm G l y cc nL (some .long) Ex RR σ0 (Qmx G σ0 X (some (vL v))) X pc L [vL v] :=
  fun p e s m args below meth c H locs ls C hB hP hl => W.lret C.1.1 C.1.2.1 C.2.1 (retQ (v := some (vL v)) hP).1 (retQ (v := some (vL v)) (args := args) hP).2 hd C.2.2.1
theorem r_dret {v : UInt64} (hd : decode cc pc = .ok (.dreturn, 1)) : Wm G l y cc nL (some .double) Ex RR σ0 (Qmx G σ0 X (some (vD v))) X pc L [vD v] :=
  fun p e s m args below meth c H locs ls C hB hP hl => W.dret C.1.1 C.1.2.1 C.2.1 (retQ (v := some (vD v)) hP).1 (retQ (v := some (vD v)) (args := args) hP).2 hd C.2.2.1
theorem r_aret {v : Option Nat} {rt : FieldType} (hrt : (∃ n, rt = .object n) ∨ ∃ t, rt = .array t) (hd : decode cc pc = .ok (.areturn, 1)) : Wm G l y cc nL (some rt) Ex RR σ0 (Qmx G σ0 X (some (vR v))) X pc L [vR v] :=
  fun p e s m args below meth c H locs ls C hB hP hl => W.aret C.1.1 C.1.2.1 C.2.1 hrt (by cases v; exact Or.inl rfl; exact Or.inr ⟨_, rfl⟩) (retQ (v := some (vR v)) hP).1 (retQ (v := some (vR v)) (args := args) hP).2 hd C.2.2.1
theorem r_vret (hd : decode cc pc = .ok (.return_, 1)) : Wm G l y cc nL none Ex RR σ0 (Qmx G σ0 X none) X pc L [] :=
  fun p e s m args below meth c H locs ls C hB hP hl => W.vret C.1.1 C.1.2.1 C.2.1 (retQ (v := none) hP).1 (retQ (v := none) (args := args) hP).2 hd C.2.2.1
end RWR
