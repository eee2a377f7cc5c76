section RWT
variable {G : Gx} {l : Launch} {y : MethodName} {cc : ByteArray} {nL : Nat} {rty : Option FieldType} {Ex : State → Prop} {RR : Room} {σ0 : Shp} {QQ : List Frame → Array Value → State → State → Prop} {pc : Nat} {L : List (Nat × SV)} {S : List SV} {σ : Shp} {I : Nat → Nat → Int32} {J : Nat → Nat → Int64} {D : Nat → Nat → UInt64} {R : Nat → Nat → Option Nat}

theorem r_iastore {a : Nat} {i : Int32} {x : Int32} (hd : decode cc pc = .ok (.iastore, 1)) (hk : kdx σ a = 20) (hi : vp_in i (lnx σ a)) (h : Wm G l y cc nL rty Ex RR σ0 QQ (σ, u2 I a i.toNatClampNeg (x), J, D, R) (pc + 1) L S) : Wm G l y cc nL rty Ex RR σ0 QQ (σ, I, J, D, R) pc L (vI x :: vI i :: vR (some a) :: S) := by
  intro p e s m args below meth c H locs ls C hB hP hl
  have hnz : kdx (σ, I, J, D, R).1 a ≠ 0 := by rw [hk]; decide
  have hat := (hP.1.1 a hnz (kd_not0 hP.1 hk (by decide))).2.2
  rw [cEx_int hk (by omega)] at hat
  refine W.iast C.1.1 C.1.2.1 hat ((C.2.2.2.2.1.1.2 0 _ rfl).1 (lnx σ a) (fun j => .int (I a j))) (fun q => by cases q) (by show ¬ (i < 0 ∨ (arrV _ _ _).slots.size ≤ _); rw [arrV_size]; exact hi) rfl rfl hd fun H1 e1 z1 oq => ?_
  refine h p e s m args below meth c H1 _ ls C hB (Hpx_put (X' := (σ, u2 I a i.toNatClampNeg (x), J, D, R)) hP hnz (kd_not0 hP.1 hk (by decide)) rfl z1 oq ?_ (fun b hb => ?_)) hl
  · rw [cEx_int hk (by omega)]
    show H1[_]? = some (vp_cell _ _)
    rw [e1, vp_cell_i, vp_cell_i, arrV_store]
    congr 2
    funext q
    by_cases hq : q = i.toNatClampNeg
    · subst hq
      simp [updV, u2]
    · simp [updV, u2, hq]
  · exact ⟨u2_off hb, rfl, rfl, rfl⟩
theorem r_bastore {a : Nat} {i : Int32} {x : Int32} (hd : decode cc pc = .ok (.bastore, 1)) (hk : kdx σ a = 22) (hi : vp_in i (lnx σ a)) (h : Wm G l y cc nL rty Ex RR σ0 QQ (σ, u2 I a i.toNatClampNeg (x.toInt8.toInt32), J, D, R) (pc + 1) L S) : Wm G l y cc nL rty Ex RR σ0 QQ (σ, I, J, D, R) pc L (vI x :: vI i :: vR (some a) :: S) := by
  intro p e s m args below meth c H locs ls C hB hP hl
  have hnz : kdx (σ, I, J, D, R).1 a ≠ 0 := by rw [hk]; decide
  have hat := (hP.1.1 a hnz (kd_not0 hP.1 hk (by decide))).2.2
  rw [cEx_int hk (by omega)] at hat
  refine W.bast C.1.1 C.1.2.1 hat ((C.2.2.2.2.1.1.2 2 _ rfl).1 (lnx σ a) (fun j => .int (I a j))) (fun q => by cases q) (by show ¬ (i < 0 ∨ (arrV _ _ _).slots.size ≤ _); rw [arrV_size]; exact hi) rfl rfl hd fun H1 e1 z1 oq => ?_
  refine h p e s m args below meth c H1 _ ls C hB (Hpx_put (X' := (σ, u2 I a i.toNatClampNeg (x.toInt8.toInt32), J, D, R)) hP hnz (kd_not0 hP.1 hk (by decide)) rfl z1 oq ?_ (fun b hb => ?_)) hl
  · rw [cEx_int hk (by omega)]
    show H1[_]? = some (vp_cell _ _)
    rw [e1, vp_cell_i, vp_cell_i, arrV_store]
    congr 2
    funext q
    by_cases hq : q = i.toNatClampNeg
    · subst hq
      simp [updV, u2, narrow]
    · simp [updV, u2, hq]
  · exact ⟨u2_off hb, rfl, rfl, rfl⟩
theorem r_zastore {a : Nat} {i : Int32} {x : Int32} (hd : decode cc pc = .ok (.bastore, 1)) (hk : kdx σ a = 24) (hi : vp_in i (lnx σ a)) (h : Wm G l y cc nL rty Ex RR σ0 QQ (σ, u2 I a i.toNatClampNeg (vp_nar .boolean x), J, D, R) (pc + 1) L S) : Wm G l y cc nL rty Ex RR σ0 QQ (σ, I, J, D, R) pc L (vI x :: vI i :: vR (some a) :: S) := by
  intro p e s m args below meth c H locs ls C hB hP hl
  have hnz : kdx (σ, I, J, D, R).1 a ≠ 0 := by rw [hk]; decide
  have hat := (hP.1.1 a hnz (kd_not0 hP.1 hk (by decide))).2.2
  rw [cEx_int hk (by omega)] at hat
  refine W.zast C.1.1 C.1.2.1 hat ((C.2.2.2.2.1.1.2 4 _ rfl).1 (lnx σ a) (fun j => .int (I a j))) (fun q => by cases q) (by show ¬ (i < 0 ∨ (arrV _ _ _).slots.size ≤ _); rw [arrV_size]; exact hi) rfl rfl hd fun H1 e1 z1 oq => ?_
  refine h p e s m args below meth c H1 _ ls C hB (Hpx_put (X' := (σ, u2 I a i.toNatClampNeg (vp_nar .boolean x), J, D, R)) hP hnz (kd_not0 hP.1 hk (by decide)) rfl z1 oq ?_ (fun b hb => ?_)) hl
  · rw [cEx_int hk (by omega)]
    show H1[_]? = some (vp_cell _ _)
    rw [e1, vp_cell_i, vp_cell_i, arrV_store]
    congr 2
    funext q
    by_cases hq : q = i.toNatClampNeg
    · subst hq
      simp [updV, u2, vp_nar, narrow]
    · simp [updV, u2, hq]
  · exact ⟨u2_off hb, rfl, rfl, rfl⟩
theorem r_sastore {a : Nat} {i : Int32} {x : Int32} (hd : decode cc pc = .ok (.sastore, 1)) (hk : kdx σ a = 23) (hi : vp_in i (lnx σ a)) (h : Wm G l y cc nL rty Ex RR σ0 QQ (σ, u2 I a i.toNatClampNeg (x.toInt16.toInt32), J, D, R) (pc + 1) L S) : Wm G l y cc nL rty Ex RR σ0 QQ (σ, I, J, D, R) pc L (vI x :: vI i :: vR (some a) :: S) := by
  intro p e s m args below meth c H locs ls C hB hP hl
  have hnz : kdx (σ, I, J, D, R).1 a ≠ 0 := by rw [hk]; decide
  have hat := (hP.1.1 a hnz (kd_not0 hP.1 hk (by decide))).2.2
  rw [cEx_int hk (by omega)] at hat
  refine W.sast C.1.1 C.1.2.1 hat ((C.2.2.2.2.1.1.2 3 _ rfl).1 (lnx σ a) (fun j => .int (I a j))) (fun q => by cases q) (by show ¬ (i < 0 ∨ (arrV _ _ _).slots.size ≤ _); rw [arrV_size]; exact hi) rfl rfl hd fun H1 e1 z1 oq => ?_
  refine h p e s m args below meth c H1 _ ls C hB (Hpx_put (X' := (σ, u2 I a i.toNatClampNeg (x.toInt16.toInt32), J, D, R)) hP hnz (kd_not0 hP.1 hk (by decide)) rfl z1 oq ?_ (fun b hb => ?_)) hl
  · rw [cEx_int hk (by omega)]
    show H1[_]? = some (vp_cell _ _)
    rw [e1, vp_cell_i, vp_cell_i, arrV_store]
    congr 2
    funext q
    by_cases hq : q = i.toNatClampNeg
    · subst hq
      simp [updV, u2, narrow]
    · simp [updV, u2, hq]
  · exact ⟨u2_off hb, rfl, rfl, rfl⟩
theorem r_lastore {a : Nat} {i : Int32} {x : Int64} (hd : decode cc pc = .ok (.lastore, 1)) (hk : kdx σ a = 21) (hi : vp_in i (lnx σ a)) (h : Wm G l y cc nL rty Ex RR σ0 QQ (σ, I, u2 J a i.toNatClampNeg (x), D, R) (pc + 1) L S) : Wm G l y cc nL rty Ex RR σ0 QQ (σ, I, J, D, R) pc L (vL x :: vI i :: vR (some a) :: S) := by
  intro p e s m args below meth c H locs ls C hB hP hl
  have hz0 : a ≠ 0 := by
    intro e
    subst e
    rw [hP.1.2.2.2.1] at hi
    exact hi (Or.inr (Nat.zero_le _))
  have hnz : kdx (σ, I, J, D, R).1 a ≠ 0 := by rw [hk]; decide
  have hat := (hP.1.1 a hnz (hz0)).2.2
  rw [cEx_long hk] at hat
  refine W.last C.1.1 C.1.2.1 hat ((C.2.2.2.2.1.1.2 1 _ rfl).1 (lnx σ a) (fun j => .long (J a j))) (fun q => by cases q) (by show ¬ (i < 0 ∨ (arrV _ _ _).slots.size ≤ _); rw [arrV_size]; exact hi) rfl rfl hd fun H1 e1 z1 oq => ?_
  refine h p e s m args below meth c H1 _ ls C hB (Hpx_put (X' := (σ, I, u2 J a i.toNatClampNeg (x), D, R)) hP hnz (hz0) rfl z1 oq ?_ (fun b hb => ?_)) hl
  · rw [cEx_long hk]
    show H1[_]? = some (vp_cell _ _)
    rw [e1, vp_cell_l, vp_cell_l, arrV_store]
    congr 2
    funext q
    by_cases hq : q = i.toNatClampNeg
    · subst hq
      simp [updV, u2]
    · simp [updV, u2, hq]
  · exact ⟨rfl, u2_off hb, rfl, rfl⟩
theorem r_dastore {a : Nat} {i : Int32} {x : UInt64} (hd : decode cc pc = .ok (.dastore, 1)) (hk : kdx σ a = 25) (hi : vp_in i (lnx σ a)) (h : Wm G l y cc nL rty Ex RR σ0 QQ (σ, I, J, u2 D a i.toNatClampNeg (x), R) (pc + 1) L S) : Wm G l y cc nL rty Ex RR σ0 QQ (σ, I, J, D, R) pc L (vD x :: vI i :: vR (some a) :: S) := by
  intro p e s m args below meth c H locs ls C hB hP hl
  have hnz : kdx (σ, I, J, D, R).1 a ≠ 0 := by rw [hk]; decide
  have hat := (hP.1.1 a hnz (kd_not0 hP.1 hk (by decide))).2.2
  rw [cEx_double hk] at hat
  refine W.dast C.1.1 C.1.2.1 hat ((C.2.2.2.2.1.1.2 5 _ rfl).1 (lnx σ a) (fun j => .double (D a j))) (fun q => by cases q) (by show ¬ (i < 0 ∨ (arrV _ _ _).slots.size ≤ _); rw [arrV_size]; exact hi) rfl rfl hd fun H1 e1 z1 oq => ?_
  refine h p e s m args below meth c H1 _ ls C hB (Hpx_put (X' := (σ, I, J, u2 D a i.toNatClampNeg (x), R)) hP hnz (kd_not0 hP.1 hk (by decide)) rfl z1 oq ?_ (fun b hb => ?_)) hl
  · rw [cEx_double hk]
    show H1[_]? = some (vp_cell _ _)
    rw [e1, vp_cell_d, vp_cell_d, arrV_store]
    congr 2
    funext q
    by_cases hq : q = i.toNatClampNeg
    · subst hq
      simp [updV, u2]
    · simp [updV, u2, hq]
  · exact ⟨rfl, rfl, u2_off hb, rfl⟩
end RWT
/-! ===== fields ===== -/
def Cls (c : Nat) (C : String) (T : u_T) (N : Nat) : Prop := vwCl[c]? = some (C, T, N) ∧ nFs c = N ∧ (∀ w ∈ u_ws C T N, w ∈ tGd) ∧ (∀ k, k < N → parseFieldDescriptor (T k).2.2.1 = some (fty c k)) ∧ (∀ a, a < N → ∀ b, b < N → a ≠ b → (T a).2.1 ≠ (T b).2.1)
def Flk (own : String) (i c k : Nat) : Prop := ∃ (C : String) (T : u_T) (N : Nat), Cls c C T N ∧ k < N ∧ Cond.fieldLink own i (T k).1 (T k).2.1 (T k).2.2.1 ∈ tGd ∧ (T k).2.2.2 = false
def FlkF (own : String) (i c k : Nat) : Prop := ∃ (C : String) (T : u_T) (N : Nat), Cls c C T N ∧ k < N ∧ Cond.fieldLink own i (T k).1 (T k).2.1 (T k).2.2.1 ∈ tGd ∧ (T k).2.2.2 = true ∧ (T k).1 = own
def FlkG (own : String) (i c k : Nat) : Prop := ∃ (C : String) (T : u_T) (N : Nat), Cls c C T N ∧ k < N ∧ Cond.fieldLink own i (T k).1 (T k).2.1 (T k).2.2.1 ∈ tGd
theorem Flk.g {own : String} {i c k : Nat} (h : Flk own i c k) : FlkG own i c k := by
  obtain ⟨C, T, N, h1, h2, h3, -⟩ := h
  exact ⟨C, T, N, h1, h2, h3⟩
theorem FlkF.g {own : String} {i c k : Nat} (h : FlkF own i c k) : FlkG own i c k := by
  obtain ⟨C, T, N, h1, h2, h3, -⟩ := h
  exact ⟨C, T, N, h1, h2, h3⟩
theorem Cls.lt {c : Nat} {C : String} {T : u_T} {N : Nat} (h : Cls c C T N) : c < 13 := (List.getElem?_eq_some_iff.mp h.1).1
def ftg (c k : Nat) : Nat := match fty c k with
  | .long => 1
  | .double => 2
  | .object _ => 3
  | .array _ => 3
  | _ => 0
theorem fvx_I {G : Gx} {X : Stt} {c k a : Nat} (h : ftg c k = 0) : fvx G X (fty c k) a k = .int (X.2.1 a k) := by
  unfold ftg at h
  unfold fvx
  split at h <;> simp_all
theorem fvx_L {G : Gx} {X : Stt} {c k a : Nat} (h : ftg c k = 1) : fvx G X (fty c k) a k = .long (X.2.2.1 a k) := by
  unfold ftg at h
  unfold fvx
  split at h <;> simp_all
theorem fvx_D {G : Gx} {X : Stt} {c k a : Nat} (h : ftg c k = 2) : fvx G X (fty c k) a k = .double (X.2.2.2.1 a k) := by
  unfold ftg at h
  unfold fvx
  split at h <;> simp_all
theorem fvx_R {G : Gx} {X : Stt} {c k a : Nat} (h : ftg c k = 3) : fvx G X (fty c k) a k = va_rf ((X.2.2.2.2 a k).map (adx G)) := by
  unfold ftg at h
  unfold fvx
  split at h <;> simp_all
section RWF
variable {G : Gx} {l : Launch} {y : MethodName} {cc : ByteArray} {nL : Nat} {rty : Option FieldType} {Ex : State → Prop} {RR : Room} {σ0 : Shp} {QQ : List Frame → Array Value → State → State → Prop} {X : Stt} {pc : Nat} {L : List (Nat × SV)} {S : List SV}
theorem r_get {a i c k : Nat} {v : SV} (hd : decode cc pc = .ok (.getfield i, 3)) (hF : FlkG y.cls i c k) (hk : kdx X.1 a = c + 1) (hv : fvx G X (fty c k) a k = cvx G v) (h : Wm G l y cc nL rty Ex RR σ0 QQ X (pc + 3) L (v :: S)) : Wm G l y cc nL rty Ex RR σ0 QQ X pc L (vR (some a) :: S) := by
  intro p e s m args below meth c0 H locs ls C hB hP hl
  obtain ⟨cC, T, N, hc, hkN, hlk⟩ := hF
  have hlt := hc.lt
  have hat := (hP.1.1 a (by rw [hk]; omega) (kd_not0 hP.1 hk (by omega))).2.2
  rw [cEx_obj hk hlt, hc.2.1] at hat
  refine va_get C.1.1 C.1.2.1 C.1.2.2.2.2 hc.2.2.1 C.1.2.2.2.1 C.2.2.2.2.1.1 (P_one hat) 0 rfl hc.1 k hkN (C.1.2.2.2.2 _ hlk) (fun x hx => hx) (v := cvx G v) ?_ hd (h p e s m args below meth c0 H locs ls C hB hP hl)
  rw [List.getElem?_map, List.getElem?_range hkN, ← hv]
  rfl
theorem r_getI {a i c k : Nat} (hd : decode cc pc = .ok (.getfield i, 3)) (hF : FlkG y.cls i c k) (ht : ftg c k = 0) (hk : kdx X.1 a = c + 1) (h : Wm G l y cc nL rty Ex RR σ0 QQ X (pc + 3) L (vI (X.2.1 a k) :: S)) : Wm G l y cc nL rty Ex RR σ0 QQ X pc L (vR (some a) :: S) := r_get hd hF hk (fvx_I ht) h
theorem r_getL {a i c k : Nat} (hd : decode cc pc = .ok (.getfield i, 3)) (hF : FlkG y.cls i c k) (ht : ftg c k = 1) (hk : kdx X.1 a = c + 1) (h : Wm G l y cc nL rty Ex RR σ0 QQ X (pc + 3) L (vL (X.2.2.1 a k) :: S)) : Wm G l y cc nL rty Ex RR σ0 QQ X pc L (vR (some a) :: S) := r_get hd hF hk (fvx_L ht) h
theorem r_getD {a i c k : Nat} (hd : decode cc pc = .ok (.getfield i, 3)) (hF : FlkG y.cls i c k) (ht : ftg c k = 2) (hk : kdx X.1 a = c + 1) (h : Wm G l y cc nL rty Ex RR σ0 QQ X (pc + 3) L (vD (X.2.2.2.1 a k) :: S)) : Wm G l y cc nL rty Ex RR σ0 QQ X pc L (vR (some a) :: S) := r_get hd hF hk (fvx_D ht) h
theorem r_getR {a i c k : Nat} (hd : decode cc pc = .ok (.getfield i, 3)) (hF : FlkG y.cls i c k) (ht : ftg c k = 3) (hk : kdx X.1 a = c + 1) (h : Wm G l y cc nL rty Ex RR σ0 QQ X (pc + 3) L (vR (X.2.2.2.2 a k) :: S)) : Wm G l y cc nL rty Ex RR σ0 QQ X pc L (vR (some a) :: S) := r_get hd hF hk (fvx_R ht) h
theorem r_getS {a i c k b : Nat} (hd : decode cc pc = .ok (.getfield i, 3)) (hF : FlkG y.cls i c k) (ht : ftg c k = 3) (hk : kdx X.1 a = c + 1) (hb : X.2.2.2.2 a k = some b) (h : Wm G l y cc nL rty Ex RR σ0 QQ X (pc + 3) L (vR (some b) :: S)) : Wm G l y cc nL rty Ex RR σ0 QQ X pc L (vR (some a) :: S) := r_get hd hF hk (by rw [fvx_R ht, hb]; rfl) h
theorem put_at {D : va_G} {ad c k n : Nat} {f f' : Nat → Value} {v : Value} {H1 : Heap} {r : vw_C} {cell : Cell} (hc : vwCl[c]? = some r) (hn : n = r.2.2) (e1 : H1[ad]? = some (cell.setSlot ((D.2 c) k) v)) (q2 : cell.cls = D.1 c) (q3 : cell.vm = .none) (q4 : ∀ j, j < r.2.2 → cell.slots[(D.2 c) j]? = some (vp_V ((List.range n).map f) j)) (hap : ∀ x y, x < r.2.2 → y < r.2.2 → x ≠ y → (D.2 c) x ≠ (D.2 c) y) (hk : k < r.2.2) (hv : f' k = v) (ho : ∀ j, j ≠ k → f' j = f j) : va_at D vwCl (ad, .inr (c, (List.range n).map f')) H1 := by
  refine ⟨r, hc, t_OB.to (V := updV (vp_V ((List.range n).map f)) k v) ⟨_, e1, q2, q3, t_set q4 hap hk v⟩ (fun j hj => ?_)⟩
  have hjn : j < n := by omega
  have e : ∀ g : Nat → Value, vp_V ((List.range n).map g) j = g j := fun g => by
    unfold vp_V
    rw [List.getD_eq_getElem?_getD, List.getElem?_map, List.getElem?_range hjn]
    rfl
  unfold updV
  rw [e f, e f']
  by_cases q : j = k
  · subst q
    simp [hv]
  · simp [q, ho j q]
theorem r_put {X' : Stt} {a i c k : Nat} {v : SV} (hd : decode cc pc = .ok (.putfield i, 3)) (hF : Flk y.cls i c k) (hk : kdx X.1 a = c + 1) (hσ : X'.1 = X.1) (hn : narrow (fty c k) (cvx G v) = cvx G v) (hf : fits (fty c k) (cvx G v) = true) (hv : fvx G X' (fty c k) a k = cvx G v) (ho : ∀ ty j, j ≠ k → fvx G X' ty a j = fvx G X ty a j) (hoff : ∀ b, b ≠ a → Offx X X' b) (h : Wm G l y cc nL rty Ex RR σ0 QQ X' (pc + 3) L S) : Wm G l y cc nL rty Ex RR σ0 QQ X pc L (v :: vR (some a) :: S) := by
  intro p e s m args below meth c0 H locs ls C hB hP hl
  obtain ⟨cC, T, N, hc, hkN, hlk, hfin⟩ := hF
  have hlt := hc.lt
  have hnz : kdx X.1 a ≠ 0 := by rw [hk]; omega
  have ha0 : a ≠ 0 := kd_not0 hP.1 hk (by omega)
  have hat := (hP.1.1 a hnz ha0).2.2
  rw [cEx_obj hk hlt] at hat
  obtain ⟨hc1, hc2, hc3, hc4, hc5⟩ := hc
  have hts := C.1.2.2.2.2
  have hK := C.2.2.2.2.1.1
  have hap := va_apart (own := y.cls) hts hc3 (fty c) hc4 hc5 hK hc1
  obtain ⟨r, h1, cell, q1, q2, q3, q4⟩ := hat
  have hr : r = (cC, T, N) := Option.some.inj (h1.symm.trans hc1)
  subst hr
  obtain ⟨hS, hfc, kC, hkC, hkind⟩ := hK.1 c _ hc1
  obtain ⟨cf, kf, fi, f, hi, hsl⟩ := hS k hkN
  have hlay := hts _ (hc3 _ (u_in_lay hkN))
  unfold u_lay at hlay
  rw [if_neg (by rw [hfin]; decide)] at hlay
  have hst := (u_facts hfc hkC (u_lays hts hc3 hkN) hi).1
  have h6 := u_store hfc hkC hkind hlay hi (hc4 k hkN) hn hf
  refine W.putK C.1.1 C.1.2.1 (f := f) ⟨C.1.2.2.2.1, hts _ hlk, ⟨_, _, _, hi⟩, hst⟩ (by rw [q2]; exact h6) q1 q3 (by rw [hsl]; exact k2_hasslot (q4 k hkN)) rfl rfl hd fun H1 e1 e2 e3 => ?_
  rw [hsl] at e1 ⊢
  have h7 := h p e s m args below meth c0 H1 (locs ++ [⟨adx G a, (G.1.2 c) k⟩]) ls C (by rw [hσ]; exact hB) (Hpx_put hP hnz ha0 hσ e2 e3 (by
    rw [cEx_obj (by rw [hσ]; exact hk) hlt]
    exact put_at hc1 hc2 e1 q2 q3 q4 hap hkN hv (fun j hj => ho _ j hj)) hoff) hl
  rw [hσ] at h7
  exact h7
theorem r_putF {X' : Stt} {a i c k : Nat} {v : SV} (hd : decode cc pc = .ok (.putfield i, 3)) (hF : FlkF y.cls i c k) (hinit : y.name = "<init>") (hk : kdx X.1 a = c + 1) (hσ : X'.1 = X.1) (hn : narrow (fty c k) (cvx G v) = cvx G v) (hf : fits (fty c k) (cvx G v) = true) (hv : fvx G X' (fty c k) a k = cvx G v) (ho : ∀ ty j, j ≠ k → fvx G X' ty a j = fvx G X ty a j) (hoff : ∀ b, b ≠ a → Offx X X' b) (h : Wm G l y cc nL rty Ex RR σ0 QQ X' (pc + 3) L S) : Wm G l y cc nL rty Ex RR σ0 QQ X pc L (v :: vR (some a) :: S) := by
  intro p e s m args below meth c0 H locs ls C hB hP hl
  obtain ⟨cC, T, N, hc, hkN, hlk, hfin, hdecl⟩ := hF
  have hlt := hc.lt
  have hnz : kdx X.1 a ≠ 0 := by rw [hk]; omega
  have ha0 : a ≠ 0 := kd_not0 hP.1 hk (by omega)
  have hat := (hP.1.1 a hnz ha0).2.2
  rw [cEx_obj hk hlt] at hat
  obtain ⟨hc1, hc2, hc3, hc4, hc5⟩ := hc
  have hts := C.1.2.2.2.2
  have hown := C.1.2.2.2.1
  have hK := C.2.2.2.2.1.1
  have hap := va_apart (own := y.cls) hts hc3 (fty c) hc4 hc5 hK hc1
  obtain ⟨r, h1, cell, q1, q2, q3, q4⟩ := hat
  have hr : r = (cC, T, N) := Option.some.inj (h1.symm.trans hc1)
  subst hr
  obtain ⟨hS, hfc, kC, hkC, hkind⟩ := hK.1 c _ hc1
  obtain ⟨cf, kf, fi, f, hi, hsl⟩ := hS k hkN
  have hlay := hts _ (hc3 _ (u_in_lay hkN))
  unfold u_lay at hlay
  rw [if_pos hfin] at hlay
  have hst := (u_facts hfc hkC (u_lays hts hc3 hkN) hi).1
  have hcf : m.cls = cf := by
    obtain ⟨_, _, c', _, _, _, -, -, hf', -, -, -, hown2, -⟩ := Cond.laysFinal_spec hlay
    have e1 : c' = cf := by have := hi.symm.trans hf'; simp at this; exact this.1.symm
    rw [hdecl] at hown2
    rw [← e1]; exact Option.some.inj (hown.symm.trans hown2)
  have h6 := u_fits hfc hkC hkind (Or.inr hlay) hi (hc4 k hkN) hn hf
  refine W.putFinK C.1.1 C.1.2.1 hown (hts _ hlk) hi hst hcf (C.2.2.2.1.trans hinit) (by rw [q2]; exact h6) q1 q3 (by rw [hsl]; exact k2_hasslot (q4 k hkN)) rfl rfl hd fun H1 e1 e2 e3 => ?_
  rw [hsl] at e1 ⊢
  have h7 := h p e s m args below meth c0 H1 (locs ++ [⟨adx G a, (G.1.2 c) k⟩]) ls C (by rw [hσ]; exact hB) (Hpx_put hP hnz ha0 hσ e2 e3 (by
    rw [cEx_obj (by rw [hσ]; exact hk) hlt]
    exact put_at hc1 hc2 e1 q2 q3 q4 hap hkN hv (fun j hj => ho _ j hj)) hoff) hl
  rw [hσ] at h7
  exact h7
end RWF
