/-! ===== what is made ===== -/
theorem Hx_new {G : Gx} {X X' : Stt} {H H1 : Heap} {t : Nat} (h : Hx G X H) (hn : nxx X'.1 = nxx X.1 + 1) (hkd : kdx X'.1 = u1 (kdx X.1) (nxx X.1 + 4) t) (hln : ∀ b, b ≠ nxx X.1 + 4 → lnx X'.1 b = lnx X.1 b) (hc : X'.2 = X.2) (z : H1.size = H.size + 1) (oq : ∀ q : Nat, q < H.size → H1[q]? = H[q]?) (hat : va_at G.1 vwCl (adx G (nxx X.1 + 4), cEx G X' (nxx X.1 + 4)) H1) : Hx G X' H1 := by
  obtain ⟨h1, h2, h3, h4, h5⟩ := h
  refine ⟨fun b hb hb0 => ?_, by rw [z, hn, h2]; omega, by rw [hkd, u1_ne (by omega)]; exact h3, by rw [hln 0 (by omega)]; exact h4, fun b hb => ?_⟩
  · by_cases e : b = nxx X.1 + 4
    · subst e
      exact ⟨by omega, by omega, hat⟩
    · rw [hkd, u1_ne e] at hb
      obtain ⟨q1, q2, q3⟩ := h1 b hb hb0
      refine ⟨q1, by omega, ?_⟩
      rw [cEx_congr (X := X) (by rw [hkd, u1_ne e]) (hln b e) (by rw [hc]) (by rw [hc]) (by rw [hc]) (by rw [hc])]
      refine q3.kept (oq _ ?_)
      show adx G b < H.size
      rw [adx_ge q1, h2]
      omega
  · rw [hn] at hb
    obtain ⟨q1, q2⟩ := h5 b (by omega)
    refine ⟨by rw [hkd, u1_ne (by omega)]; exact q1, fun k => ?_⟩
    rw [hc]
    exact q2 k
def ftok : FieldType → Bool
  | .float => false
  | _ => true
section RWA
variable {G : Gx} {l : Launch} {y : MethodName} {cc : ByteArray} {nL : Nat} {rty : Option FieldType} {Ex : State → Prop} {RR : Room} {σ0 : Shp} {QQ : List Frame → Array Value → State → State → Prop} {pc : Nat} {L : List (Nat × SV)} {S : List SV} {σ : Shp} {I : Nat → Nat → Int32} {J : Nat → Nat → Int64} {D : Nat → Nat → UInt64} {R : Nat → Nat → Option Nat}
theorem vaS_new {A : Nat → Prop} {H0 H H1 : Heap} {locs : List Loc} (hS : va_S A H0 H locs) (z : H.size ≤ H1.size) (o : ∀ q : Nat, q < H.size → H1[q]? = H[q]?) : va_S A H0 H1 locs :=
  ⟨Nat.le_trans hS.1 z, fun x h1 h2 => (o x (Nat.lt_of_lt_of_le h1 hS.1)).trans (hS.2.1 x h1 h2), hS.2.2⟩
theorem r_new {i c n : Nat} {C1 : String} {T : u_T} (hd : decode cc pc = .ok (.new i, 3)) (hC : Cls c C1 T n) (hft : ∀ k, k < n → ftok (fty c k) = true) (hcl : Cond.classLink y.cls i C1 ∈ tGd) (hin : Cond.instantiable C1 n ∈ tGd) (hini : Cond.initialized C1 ∈ tGd) (hb1 : nxx σ + 1 - nxx σ0 ≤ RR.cells) (hb2 : slx σ + n - slx σ0 ≤ RR.slots) (h : Wm G l y cc nL rty Ex RR σ0 QQ (mkO σ (c + 1) n, I, J, D, R) (pc + 3) L (vR (some (nxx σ + 4)) :: S)) : Wm G l y cc nL rty Ex RR σ0 QQ (σ, I, J, D, R) pc L S := by
  intro p e s m args below meth c0 H locs ls C hB hP hl
  obtain ⟨hc1, hc2, hc3, hc4, hc5⟩ := id hC
  have hts := C.1.2.2.2.2
  have hK := C.2.2.2.2.1.1
  have hKn := hK.1 c _ hc1
  have hB' : nxx σ0 ≤ nxx σ ∧ slx σ0 ≤ slx σ ∧ nxx σ - nxx σ0 ≤ RR.cells ∧ slx σ - slx σ0 ≤ RR.slots := hB
  have hsz : H.size = G.2.2.1 + nxx σ := hP.1.2.1
  refine W.newcK C.1.1 C.1.2.1 C.1.2.2.2.1 (hts _ hcl) (hts _ hin) (hts _ hini) rfl hd (by show nxx σ - nxx σ0 + 1 ≤ _; omega) (by show slx σ - slx σ0 + n ≤ _; omega) hKn.2.1 rfl fun H1 kC hkC e1 z1 o1 => ?_
  have had : adx G (nxx σ + 4) = H.size := by rw [hsz]; rfl
  have hat : va_at G.1 vwCl (adx G (nxx σ + 4), cEx G (mkO σ (c + 1) n, I, J, D, R) (nxx σ + 4)) H1 := by
    rw [cEx_obj (c := c) (by show u1 (kdx σ) (nxx σ + 4) (c + 1) (nxx σ + 4) = _; rw [u1_self]) hC.lt, had]
    refine ⟨_, hc1, (u_born (fty c) hts hc3 hKn hkC e1 hc4).to (fun j hj => ?_)⟩
    have e0 : vp_V ((List.range (nFs c)).map (fun k => fvx G (mkO σ (c + 1) n, I, J, D, R) (fty c k) (nxx σ + 4) k)) j = fvx G (mkO σ (c + 1) n, I, J, D, R) (fty c j) (nxx σ + 4) j := by
      unfold vp_V
      rw [List.getD_eq_getElem?_getD, List.getElem?_map, List.getElem?_range (by rw [hc2]; exact hj)]
      rfl
    obtain ⟨q1, q2, q3, q4⟩ := (hP.1.2.2.2.2 (nxx σ + 4) (Nat.le_refl _)).2 j
    rw [show (mkO σ (c + 1) n, I, J, D, R).2 = (σ, I, J, D, R).2 from rfl] at *
    rw [e0]
    unfold fvx
    have q1 : I (nxx σ + 4) j = 0 := q1
    have q2 : J (nxx σ + 4) j = 0 := q2
    have q3 : D (nxx σ + 4) j = 0 := q3
    have q4 : R (nxx σ + 4) j = none := q4
    have hfl := hft j hj
    cases hty : fty c j <;> simp [defaultValue, q1, q2, q3, q4, va_rf]
    rw [hty] at hfl
    cases hfl
  have ek : ({ (F0 m pc ls (S.map (cvx G))) with pc := (F0 m pc ls (S.map (cvx G))).pc + 3, stack := .ref H.size :: (F0 m pc ls (S.map (cvx G))).stack } : JFrame) = F0 m (pc + 3) ls ((vR (some (nxx σ + 4)) :: S).map (cvx G)) := by
    show F0 m (pc + 3) ls (Value.ref H.size :: S.map (cvx G)) = F0 m (pc + 3) ls (Value.ref (adx G (nxx σ + 4)) :: S.map (cvx G))
    rw [had]
  refine W.eq ek ?_
  have h7 := h p e s m args below meth c0 H1 locs ls C ⟨by show _ ≤ nxx σ + 1; omega, by show _ ≤ slx σ + n; omega, hb1, hb2⟩ ⟨Hx_new (X := (σ, I, J, D, R)) hP.1 rfl rfl (fun b _ => rfl) rfl z1 o1 hat, vaS_new hP.2 (by omega) o1⟩ hl
  have en : nxx (mkO σ (c + 1) n, I, J, D, R).1 - nxx σ0 = nxx σ - nxx σ0 + 1 := by show nxx σ + 1 - nxx σ0 = _; omega
  have es : slx (mkO σ (c + 1) n, I, J, D, R).1 - slx σ0 = slx σ - slx σ0 + n := by show slx σ + n - slx σ0 = _; omega
  rw [en, es] at h7
  exact h7
theorem r_newa {t ti : Nat} {n : Int32} {atype : ArrayType} {ty : FieldType} (hd : decode cc pc = .ok (.newarray atype, 2)) (hty : newarray.typeOf atype = ty) (ht : (t = 20 ∧ ti = 0 ∧ ty = .int) ∨ (t = 21 ∧ ti = 1 ∧ ty = .long) ∨ (t = 22 ∧ ti = 2 ∧ ty = .byte) ∨ (t = 23 ∧ ti = 3 ∧ ty = .short) ∨ (t = 24 ∧ ti = 4 ∧ ty = .boolean) ∨ (t = 25 ∧ ti = 5 ∧ ty = .double)) (harr : Cond.arrayClass ty ∈ tGd) (hn : ¬ n < 0) (hbytes : n.toNatClampNeg ≤ 1000000) (hb1 : nxx σ + 1 - nxx σ0 ≤ RR.cells) (hb2 : slx σ + n.toNatClampNeg - slx σ0 ≤ RR.slots) (h : Wm G l y cc nL rty Ex RR σ0 QQ (mkA σ t n.toNatClampNeg, I, J, D, R) (pc + 2) L (vR (some (nxx σ + 4)) :: S)) : Wm G l y cc nL rty Ex RR σ0 QQ (σ, I, J, D, R) pc L (vI n :: S) := by
  intro p e s m args below meth c0 H locs ls C hB hP hl
  have hts := C.1.2.2.2.2
  have hK := C.2.2.2.2.1.1
  have hB' : nxx σ0 ≤ nxx σ ∧ slx σ0 ≤ slx σ ∧ nxx σ - nxx σ0 ≤ RR.cells ∧ slx σ - slx σ0 ≤ RR.slots := hB
  have hsz : H.size = G.2.2.1 + nxx σ := hP.1.2.1
  have had : adx G (nxx σ + 4) = H.size := by rw [hsz]; rfl
  have hz := (hP.1.2.2.2.2 (nxx σ + 4) (Nat.le_refl _)).2
  have hcb : componentBytes ty ≤ 8 := by
    rcases ht with ⟨-, -, rfl⟩ | ⟨-, -, rfl⟩ | ⟨-, -, rfl⟩ | ⟨-, -, rfl⟩ | ⟨-, -, rfl⟩ | ⟨-, -, rfl⟩ <;> decide
  subst hty
  refine va_newaK C.1.1 C.1.2.1 (hts _ harr) rfl hd rfl hn rfl (Nat.le_trans (Nat.mul_le_mul hbytes hcb) (by decide)) (by show nxx σ - nxx σ0 + 1 ≤ _; omega) (by show slx σ - slx σ0 + _ ≤ _; omega) rfl fun H1 cA e1 z1 o1 hAr hNm => ?_
  have hcA : cA = G.2.1 t := by
    rcases ht with ⟨rfl, -, h2⟩ | ⟨rfl, -, h2⟩ | ⟨rfl, -, h2⟩ | ⟨rfl, -, h2⟩ | ⟨rfl, -, h2⟩ | ⟨rfl, -, h2⟩
    · rw [h2] at hNm; exact Option.some.inj (hNm.symm.trans (hK.2 0 _ rfl).2)
    · rw [h2] at hNm; exact Option.some.inj (hNm.symm.trans (hK.2 1 _ rfl).2)
    · rw [h2] at hNm; exact Option.some.inj (hNm.symm.trans (hK.2 2 _ rfl).2)
    · rw [h2] at hNm; exact Option.some.inj (hNm.symm.trans (hK.2 3 _ rfl).2)
    · rw [h2] at hNm; exact Option.some.inj (hNm.symm.trans (hK.2 4 _ rfl).2)
    · rw [h2] at hNm; exact Option.some.inj (hNm.symm.trans (hK.2 5 _ rfl).2)
  subst hcA
  have hkt : kdx (mkA σ t n.toNatClampNeg, I, J, D, R).1 (nxx σ + 4) = t := u1_self _ _ _
  have hlt : lnx (mkA σ t n.toNatClampNeg, I, J, D, R).1 (nxx σ + 4) = n.toNatClampNeg := u1_self _ _ _
  have hzI : ∀ k, I (nxx σ + 4) k = 0 := fun k => (hz k).1
  have hzJ : ∀ k, J (nxx σ + 4) k = 0 := fun k => (hz k).2.1
  have hzD : ∀ k, D (nxx σ + 4) k = 0 := fun k => (hz k).2.2.1
  have hat : va_at G.1 vwCl (adx G (nxx σ + 4), cEx G (mkA σ t n.toNatClampNeg, I, J, D, R) (nxx σ + 4)) H1 := by
    rw [had]
    rcases ht with ⟨rfl, -, h2⟩ | ⟨rfl, -, h2⟩ | ⟨rfl, -, h2⟩ | ⟨rfl, -, h2⟩ | ⟨rfl, -, h2⟩ | ⟨rfl, -, h2⟩
    · rw [cEx_int hkt (by omega), hlt]; show H1[_]? = some (vp_cell _ _); rw [e1, vp_cell_i, h2]; congr 2; funext q; simp [hzI, defaultValue]
    · rw [cEx_long hkt, hlt]; show H1[_]? = some (vp_cell _ _); rw [e1, vp_cell_l, h2]; congr 2; funext q; simp [hzJ, defaultValue]
    · rw [cEx_int hkt (by omega), hlt]; show H1[_]? = some (vp_cell _ _); rw [e1, vp_cell_i, h2]; congr 2; funext q; simp [hzI, defaultValue]
    · rw [cEx_int hkt (by omega), hlt]; show H1[_]? = some (vp_cell _ _); rw [e1, vp_cell_i, h2]; congr 2; funext q; simp [hzI, defaultValue]
    · rw [cEx_int hkt (by omega), hlt]; show H1[_]? = some (vp_cell _ _); rw [e1, vp_cell_i, h2]; congr 2; funext q; simp [hzI, defaultValue]
    · rw [cEx_double hkt, hlt]; show H1[_]? = some (vp_cell _ _); rw [e1, vp_cell_d, h2]; congr 2; funext q; simp [hzD, defaultValue]
  have ek : ({ (F0 m pc ls ((vI n :: S).map (cvx G))) with pc := (F0 m pc ls ((vI n :: S).map (cvx G))).pc + 2, stack := .ref H.size :: S.map (cvx G) } : JFrame) = F0 m (pc + 2) ls ((vR (some (nxx σ + 4)) :: S).map (cvx G)) := by
    show F0 m (pc + 2) ls (Value.ref H.size :: S.map (cvx G)) = F0 m (pc + 2) ls (Value.ref (adx G (nxx σ + 4)) :: S.map (cvx G))
    rw [had]
  refine W.eq ek ?_
  have h7 := h p e s m args below meth c0 H1 locs ls C ⟨by show _ ≤ nxx σ + 1; omega, by show _ ≤ slx σ + _; omega, hb1, hb2⟩ ⟨Hx_new (X := (σ, I, J, D, R)) hP.1 rfl rfl (fun b hb => u1_ne hb) rfl z1 o1 hat, vaS_new hP.2 (by omega) o1⟩ hl
  have en : nxx (mkA σ t n.toNatClampNeg, I, J, D, R).1 - nxx σ0 = nxx σ - nxx σ0 + 1 := by show nxx σ + 1 - nxx σ0 = _; omega
  have es : slx (mkA σ t n.toNatClampNeg, I, J, D, R).1 - slx σ0 = slx σ - slx σ0 + n.toNatClampNeg := by show slx σ + n.toNatClampNeg - slx σ0 = _; omega
  rw [en, es] at h7
  exact h7
theorem r_anewa {t i : Nat} {n : Int32} {C1 : String} (hd : decode cc pc = .ok (.anewarray i, 3)) (ht : (t = 26 ∧ C1 = "GlassHouse$Thing") ∨ (t = 27 ∧ C1 = "GlassHouse$Frame")) (hcl : Cond.classLink y.cls i C1 ∈ tGd) (hn : ¬ n < 0) (hbytes : n.toNatClampNeg ≤ 1000000) (hb1 : nxx σ + 1 - nxx σ0 ≤ RR.cells) (hb2 : slx σ + n.toNatClampNeg - slx σ0 ≤ RR.slots) (h : Wm G l y cc nL rty Ex RR σ0 QQ (mkA σ t n.toNatClampNeg, I, J, D, R) (pc + 3) L (vR (some (nxx σ + 4)) :: S)) : Wm G l y cc nL rty Ex RR σ0 QQ (σ, I, J, D, R) pc L (vI n :: S) := by
  intro p e s m args below meth c0 H locs ls C hB hP hl
  have hts := C.1.2.2.2.2
  have hK := C.2.2.2.2.1.1
  have hB' : nxx σ0 ≤ nxx σ ∧ slx σ0 ≤ slx σ ∧ nxx σ - nxx σ0 ≤ RR.cells ∧ slx σ - slx σ0 ≤ RR.slots := hB
  have hsz : H.size = G.2.2.1 + nxx σ := hP.1.2.1
  have had : adx G (nxx σ + 4) = H.size := by rw [hsz]; rfl
  have hz := (hP.1.2.2.2.2 (nxx σ + 4) (Nat.le_refl _)).2
  have hAO : va_AO C1 s := by
    rcases ht with ⟨-, rfl⟩ | ⟨-, rfl⟩
    · exact C.2.2.2.2.1.2.2.1
    · exact C.2.2.2.2.1.2.2.2.1
  refine W.anew C.1.1 C.1.2.1 C.1.2.2.2.1 (hts _ hcl) (va_AO.use hAO) rfl hd rfl hn (Nat.le_trans (Nat.mul_le_mul hbytes (Nat.le_refl 4)) (by decide)) (by show nxx σ - nxx σ0 + 1 ≤ _; omega) (by show slx σ - slx σ0 + _ ≤ _; omega) fun cA kA comp f1 f2 f3 f4 => ?_
  generalize hH1 : H.push ({ cls := cA, slots := Array.replicate n.toNatClampNeg .null, vm := .none } : Cell) = H1
  have z1 : H1.size = H.size + 1 := by rw [← hH1, Array.size_push]
  have e1 : H1[H.size]? = some (arrV cA n.toNatClampNeg (fun _ => .null)) := by rw [← hH1, Array.getElem?_push_size, ← arrV_new]
  have o1 : ∀ q : Nat, q < H.size → H1[q]? = H[q]? := fun q hq => by rw [← hH1, Array.getElem?_push, if_neg (Nat.ne_of_lt hq)]
  have hcA : cA = G.2.1 t := by
    rcases ht with ⟨rfl, rfl⟩ | ⟨rfl, rfl⟩
    · obtain ⟨_, _, _, _, _, k4⟩ := (hK.2 6 _ rfl).2
      exact Option.some.inj (f1.symm.trans k4)
    · obtain ⟨_, _, _, _, _, k4⟩ := (hK.2 7 _ rfl).2
      exact Option.some.inj (f1.symm.trans k4)
  subst hcA
  have hkt : kdx (mkA σ t n.toNatClampNeg, I, J, D, R).1 (nxx σ + 4) = t := u1_self _ _ _
  have hlt : lnx (mkA σ t n.toNatClampNeg, I, J, D, R).1 (nxx σ + 4) = n.toNatClampNeg := u1_self _ _ _
  have hzR : ∀ k, R (nxx σ + 4) k = none := fun k => (hz k).2.2.2
  have hat : va_at G.1 vwCl (adx G (nxx σ + 4), cEx G (mkA σ t n.toNatClampNeg, I, J, D, R) (nxx σ + 4)) H1 := by
    rw [had, cEx_ref hkt (by omega), hlt]
    show H1[_]? = some (vp_cell _ _)
    rw [e1, vp_cell_q]
    congr 2
    funext q
    simp [hzR, va_rf]
  have ek : ({ (F0 m pc ls ((vI n :: S).map (cvx G))) with pc := (F0 m pc ls ((vI n :: S).map (cvx G))).pc + 3, stack := .ref H.size :: S.map (cvx G) } : JFrame) = F0 m (pc + 3) ls ((vR (some (nxx σ + 4)) :: S).map (cvx G)) := by
    show F0 m (pc + 3) ls (Value.ref H.size :: S.map (cvx G)) = F0 m (pc + 3) ls (Value.ref (adx G (nxx σ + 4)) :: S.map (cvx G))
    rw [had]
  refine W.eq ek ?_
  have h7 := h p e s m args below meth c0 H1 locs ls C ⟨by show _ ≤ nxx σ + 1; omega, by show _ ≤ slx σ + _; omega, hb1, hb2⟩ ⟨Hx_new (X := (σ, I, J, D, R)) hP.1 rfl rfl (fun b hb => u1_ne hb) rfl z1 o1 hat, vaS_new hP.2 (by omega) o1⟩ hl
  have en : nxx (mkA σ t n.toNatClampNeg, I, J, D, R).1 - nxx σ0 = nxx σ - nxx σ0 + 1 := by show nxx σ + 1 - nxx σ0 = _; omega
  have es : slx (mkA σ t n.toNatClampNeg, I, J, D, R).1 - slx σ0 = slx σ - slx σ0 + n.toNatClampNeg := by show slx σ + n.toNatClampNeg - slx σ0 = _; omega
  rw [en, es] at h7
  exact h7
/-- the static arrays -/
theorem r_gets0 {i : Nat} (hd : decode cc pc = .ok (.getstatic i, 3)) (hlk : Cond.fieldLink y.cls i "GlassHouse" "NO_CELLS" "[J" ∈ tGd) (h : Wm G l y cc nL rty Ex RR σ0 QQ (σ, I, J, D, R) (pc + 3) L (vR (some 0) :: S)) : Wm G l y cc nL rty Ex RR σ0 QQ (σ, I, J, D, R) pc L S :=
  fun p e s m args below meth c H locs ls C hB hP hl => va_gets C.1.1 C.1.2.1 C.2.2.2.2.2.1.1 hP.2 C.1.2.2.2.1 (C.1.2.2.2.2 _ hlk) (fun x hx => hx) hd (h p e s m args below meth c H locs ls C hB hP hl)
theorem r_gets1 {i : Nat} (hd : decode cc pc = .ok (.getstatic i, 3)) (hlk : Cond.fieldLink y.cls i "GlassHouse$Houses" "LEAST" "[I" ∈ tGd) (h : Wm G l y cc nL rty Ex RR σ0 QQ (σ, I, J, D, R) (pc + 3) L (vR (some 1) :: S)) : Wm G l y cc nL rty Ex RR σ0 QQ (σ, I, J, D, R) pc L S :=
  fun p e s m args below meth c H locs ls C hB hP hl => va_gets C.1.1 C.1.2.1 C.2.2.2.2.2.1.2.2.1 hP.2 C.1.2.2.2.1 (C.1.2.2.2.2 _ hlk) (fun x hx => hx) hd (h p e s m args below meth c H locs ls C hB hP hl)
theorem r_gets2 {i : Nat} (hd : decode cc pc = .ok (.getstatic i, 3)) (hlk : Cond.fieldLink y.cls i "GlassHouse$Houses" "MOST" "[I" ∈ tGd) (h : Wm G l y cc nL rty Ex RR σ0 QQ (σ, I, J, D, R) (pc + 3) L (vR (some 2) :: S)) : Wm G l y cc nL rty Ex RR σ0 QQ (σ, I, J, D, R) pc L S :=
  fun p e s m args below meth c H locs ls C hB hP hl => va_gets C.1.1 C.1.2.1 C.2.2.2.2.2.1.2.2.2.2.1 hP.2 C.1.2.2.2.1 (C.1.2.2.2.2 _ hlk) (fun x hx => hx) hd (h p e s m args below meth c H locs ls C hB hP hl)
theorem r_iald1 {i : Int32} (hd : decode cc pc = .ok (.iaload, 1)) (hi : vp_in i 5) (h : Wm G l y cc nL rty Ex RR σ0 QQ (σ, I, J, D, R) (pc + 1) L (vI (LEASTc i.toNatClampNeg) :: S)) : Wm G l y cc nL rty Ex RR σ0 QQ (σ, I, J, D, R) pc L (vI i :: vR (some 1) :: S) :=
  fun p e s m args below meth c H locs ls C hB hP hl => va_ti C.1.1 C.1.2.1 C.2.2.2.2.2.1.2.2.2.1 hP.2 hi rfl hd (h p e s m args below meth c H locs ls C hB hP hl)
theorem r_iald2 {i : Int32} (hd : decode cc pc = .ok (.iaload, 1)) (hi : vp_in i 5) (h : Wm G l y cc nL rty Ex RR σ0 QQ (σ, I, J, D, R) (pc + 1) L (vI (MOSTc i.toNatClampNeg) :: S)) : Wm G l y cc nL rty Ex RR σ0 QQ (σ, I, J, D, R) pc L (vI i :: vR (some 2) :: S) :=
  fun p e s m args below meth c H locs ls C hB hP hl => va_ti C.1.1 C.1.2.1 C.2.2.2.2.2.1.2.2.2.2.2 hP.2 hi rfl hd (h p e s m args below meth c H locs ls C hB hP hl)
end RWA
