/-! ===== calls ===== -/
theorem tG_good : ∀ w ∈ tGd, w ∈ tGd ∧ ((w.onTables && w.keeps) = true ∨ ∃ ty, w = .arrayClass ty) := fun w h => ⟨h, good_of_word (List.mem_filter.mp h).2⟩
theorem tG_in {w : Cond} (i : Nat) (h : lw_tbl[i]? = some w) (hg : goodWord w = true) : w ∈ tGd := List.mem_filter.mpr ⟨List.mem_of_getElem? h, hg⟩
theorem nest_in {w : Cond} (i : Nat) (h : lw_tbl[i]? = some w) (hg : isNest w = true) : w ∈ nestW := List.mem_filter.mpr ⟨List.mem_of_getElem? h, hg⟩
theorem tG_cons {w : Cond} (h : w ∈ tGd) : GoodIn tGd (w :: tGd) := fun x hx => by
  rcases List.mem_cons.mp hx with rfl | h1
  · exact tG_good _ h
  · exact tG_good _ h1
theorem Kx.same {G : Gx} {u U : State} (h : u.vm = U.vm) (hK : Kx G u) : Kx G U := by
  obtain ⟨h1, h2, h3, h4, h5, h6⟩ := hK
  have ha : u.vm.Alike U.vm := by rw [h]; exact Vm.Alike.refl _
  refine ⟨va_K.moved ha h1, fun w hw => ?_, h3.moved ha, h4.moved ha, h5.moved ha, h6.moved ha⟩
  have hn := (List.mem_filter.mp hw).2
  cases w <;> first | (exact va_Nw.same rfl h (h2 _ hw)) | (cases hn)
theorem Kx.warm {G : Gx} {s U : State} (h : s.WarmedH U.vm) (hK : Kx G s) : Kx G U := by
  obtain ⟨h1, h2, h3, h4, h5, h6⟩ := hK
  have ha := h.alike
  refine ⟨va_K.moved ha h1, fun w hw => ?_, h3.moved ha, h4.moved ha, h5.moved ha, h6.moved ha⟩
  have hn := (List.mem_filter.mp hw).2
  cases w <;> first | (exact va_Nw.warmM h (h2 _ hw)) | (cases hn)
theorem Sx.moved {G : Gx} {u U : State} {H : Heap} (ha : u.vm.Alike U.vm) (h : Sx G u H) : Sx G U H :=
  ⟨h.1.moved ha, h.2.1.moved ha, h.2.2.1.moved ha, h.2.2.2.1.moved ha, h.2.2.2.2.1.moved ha, h.2.2.2.2.2.moved ha⟩
theorem Sx.kept {G : Gx} {u : State} {H H1 : Heap} (h : Sx G u H) (hq : ∀ a : Nat, a < H.size → ¬ Az G a → H1[a]? = H[a]?) : Sx G u H1 :=
  ⟨h.1.kept hq, h.2.1.kept hq, h.2.2.1.kept hq, h.2.2.2.1.kept hq, h.2.2.2.2.1.kept hq, h.2.2.2.2.2.kept hq⟩
theorem Pxx_blind {G : Gx} {av : List SV} {X : Stt} : FrameBlind (Pxx G av X) := fun a U g mk q => by
  obtain ⟨q1, q2, q3, q4, q5⟩ := q
  exact ⟨q1, q2, Kx.same (u := U) (U := U.calling g mk a) rfl q3, Sx.moved (u := U) (U := U.calling g mk a) (Vm.Alike.refl U.vm) q4, q5⟩
section RWC
variable {G : Gx} {l : Launch} {y : MethodName} {cc : ByteArray} {nL : Nat} {rty : Option FieldType} {Ex : State → Prop} {RR : Room} {σ0 : Shp} {QQ : List Frame → Array Value → State → State → Prop} {X : Stt} {pc : Nat} {L : List (Nat × SV)} {S : List SV}
variable {y2 : MethodName} {cc2 : ByteArray} {nL2 : Nat} {rty2 : Option FieldType} {d2 w2 : Nat} {X2 : Stt} {rv2 : Option SV} {av : List SV} {i n : Nat}
theorem Pxx_at {p : Program} {s : State} {m : MethodId} {args : Array Value} {meth : Method} {c : Code} {H : Heap} {locs : List Loc} (C : Cxx G y cc nL rty Ex p s m args meth c) (hP : Hpx G s X H locs) (av : List SV) : ∀ U : State, U.heap = H → s.WarmedH U.vm → Pxx G av X (av.map (cvx G)).toArray U := fun U hU hW =>
  ⟨rfl, by rw [hU]; exact hP.1, Kx.warm hW C.2.2.2.2.1, Sx.moved hW.alike (by rw [hU]; exact Sx.kept C.2.2.2.2.2.1 hP.2.2.1), by rw [hU]; exact Nat.le_trans C.2.2.2.2.2.2.1 hP.2.1⟩
/-- what goes on behind a call -/
theorem call_go {p : Program} {e : Env} {s : State} {m : MethodId} {args a2 : Array Value} {below : List Frame} {meth : Method} {c : Code} {H : Heap} {locs : List Loc} {ls : Array Slot} {st0 : List Value} (C : Cxx G y cc nL rty Ex p s m args meth c) (hB : Bdx RR σ0 X.1) (hP : Hpx G s X H locs) (hl : lv_has ls nL (cvL G L))
    (hr : va_Run p l e RR s m args below meth c H locs (nxx X.1 - nxx σ0) (slx X.1 - slx σ0) (nxx X2.1 - nxx X.1) (slx X2.1 - slx X.1) (F0 m pc ls st0) (S.map (cvx G)) (Qxx G X2 rv2 a2) (Az G))
    (hm : nxx X.1 ≤ nxx X2.1 ∧ slx X.1 ≤ slx X2.1) (hb : Bdx RR σ0 X2.1)
    (h : Wm G l y cc nL rty Ex RR σ0 QQ X2 (pc + 3) L (rv2.toList ++ S)) :
    W p l e RR s m args below meth c H locs (nxx X.1 - nxx σ0) (slx X.1 - slx σ0) (QQ below args s) (F0 m pc ls st0) := by
  intro T hT XX
  obtain ⟨v, st₀, t, T', Ls, h0, X', hLs, e1, e2, ⟨q1, q2, q3, q4⟩, st⟩ := hr T hT XX
  cases q1
  rw [h0] at q3 q4
  have ec : nxx X.1 - nxx σ0 + (nxx X2.1 - nxx X.1) = nxx X2.1 - nxx σ0 := by have := hB.1; omega
  have es : slx X.1 - slx σ0 + (slx X2.1 - slx X.1) = slx X2.1 - slx σ0 := by have := hB.2.1; omega
  rw [ec, es] at X'
  obtain ⟨t2, a1, b1⟩ := h p e s m args below meth c T'.heap (locs ++ Ls) ls C hb ⟨by rw [e1]; exact q2, ⟨Nat.le_trans hP.2.1 (by rw [e1]; exact q3), fun q h1 h2 => by rw [e1, q4 q (Nat.lt_of_lt_of_le h1 hP.2.1) h2]; exact hP.2.2.1 q h1 h2, fun q hq => by
      rcases List.mem_append.mp hq with h | h
      · exact hP.2.2.2 q h
      · exact hLs q h⟩⟩ hl T' rfl X'
  refine ⟨t2, st t2 ?_, b1⟩
  have ek : ({ (F0 m pc ls st0) with pc := (F0 m pc ls st0).pc + 3, stack := (rv2.map (cvx G)).toList ++ S.map (cvx G) } : JFrame) = F0 m (pc + 3) ls ((rv2.toList ++ S).map (cvx G)) := by
    cases rv2 <;> rfl
  rw [ek]
  exact a1
theorem cat_room {m : MethodId} {ls : Array Slot} {st0 : List Value} (hs : (S.map ctx).sum ≤ 8) : 2 * (F0 m pc ls st0).monitorRoom + ((S.map (cvx G)).map fun v => v.category).sum ≤ 8 := by
  refine lv_room ?_
  rw [List.map_map]
  have e : ((fun v : Value => v.category) ∘ cvx G) = ctx := funext fun v => ctx_cat G v
  rw [e]
  exact hs
def okM (y : MethodName) (n : Nat) : Prop := y.cls ≠ "java/lang/invoke/MethodHandle" ∧ y.cls ≠ "java/lang/invoke/VarHandle" ∧ (parseMethodDescriptor y.desc).map (fun d => d.parameters.length) = some n
/-- a static method -/
theorem r_callS (hd : decode cc pc = .ok (.invokestatic i, 3)) (hC : Con G l y2 cc2 nL2 rty2 d2 w2 av X X2 rv2) (hlk : Cond.methodLink y.cls i y2 ∈ tGd) (hw : Cond.static y2 ∈ tGd ∧ Cond.initialized y2.cls ∈ tGd ∧ Cond.code y2 cc2 nL2 rty2 ∈ tGd ∧ okM y2 n) (hn : av.length = n) (hd2 : d2 + 1 ≤ RR.frames ∧ 8 + (nL2 + 11) + w2 ≤ RR.locals) (hs : (S.map ctx).sum ≤ 8) (hm : nxx X.1 ≤ nxx X2.1 ∧ slx X.1 ≤ slx X2.1) (hb : Bdx RR σ0 X.1 → Bdx RR σ0 X2.1) (h : Wm G l y cc nL rty Ex RR σ0 QQ X2 (pc + 3) L (rv2.toList ++ S)) : Wm G l y cc nL rty Ex RR σ0 QQ X pc L (av.reverse ++ S) := by
  intro p e s m args below meth c H locs ls C hB hP hl
  have hb2 := hb hB
  have hts := C.1.2.2.2.2
  refine call_go C hB hP hl (va_runS (As := av.map (cvx G)) (n := n) (bytes := cc2) (maxL := nL2) (ret := rty2) C.1 hC ⟨callB_of n hts (tG_cons hw.2.2.1) rfl rfl rfl (hts _ hw.2.1) (hts _ hlk) hw.2.2.2 hd2, hts _ hw.1⟩ ⟨Pxx_blind, Pxx_at C hP av⟩ rfl (by rw [List.length_map]; exact hn) hl.1 (by show List.map (cvx G) (av.reverse ++ S) = _; rw [List.map_append, List.map_reverse]) (cat_room hs) hd ⟨?_, ?_⟩) hm hb2 h
  · have := hb2.2.2.1; have := hB.1; omega
  · have := hb2.2.2.2; have := hB.2.1; omega
/-- a static method of a nest mate -/
theorem r_callSN {host : String} (hd : decode cc pc = .ok (.invokestatic i, 3)) (hC : Con G l y2 cc2 nL2 rty2 d2 w2 av X X2 rv2) (hlk : Cond.methodLinkNest y.cls i y2 host ∈ nestW) (hw : Cond.static y2 ∈ tGd ∧ Cond.initialized y2.cls ∈ tGd ∧ Cond.code y2 cc2 nL2 rty2 ∈ tGd ∧ okM y2 n) (hn : av.length = n) (hd2 : d2 + 1 ≤ RR.frames ∧ 8 + (nL2 + 11) + w2 ≤ RR.locals) (hs : (S.map ctx).sum ≤ 8) (hm : nxx X.1 ≤ nxx X2.1 ∧ slx X.1 ≤ slx X2.1) (hb : Bdx RR σ0 X.1 → Bdx RR σ0 X2.1) (h : Wm G l y cc nL rty Ex RR σ0 QQ X2 (pc + 3) L (rv2.toList ++ S)) : Wm G l y cc nL rty Ex RR σ0 QQ X pc L (av.reverse ++ S) := by
  intro p e s m args below meth c H locs ls C hB hP hl
  have hb2 := hb hB
  have hts := C.1.2.2.2.2
  refine call_go C hB hP hl (va_runSN (As := av.map (cvx G)) (n := n) (bytes := cc2) (maxL := nL2) (ret := rty2) C.1 hC ⟨va_cnB n hts (tG_cons hw.2.2.1) rfl rfl rfl (C.2.2.2.2.1.2.1 _ hlk) (hts _ hw.2.1) hw.2.2.2 hd2, hts _ hw.1, trivial⟩ ⟨Pxx_blind, Pxx_at C hP av⟩ rfl (by rw [List.length_map]; exact hn) hl.1 (by show List.map (cvx G) (av.reverse ++ S) = _; rw [List.map_append, List.map_reverse]) (cat_room hs) hd ⟨?_, ?_⟩) hm hb2 h
  · have := hb2.2.2.1; have := hB.1; omega
  · have := hb2.2.2.2; have := hB.2.1; omega
/-- an instance method -/
theorem r_callV {a c1 : Nat} {T : u_T} {N : Nat} (hd : decode cc pc = .ok (.invokevirtual i, 3)) (hC : Con G l y2 cc2 nL2 rty2 d2 w2 (vR (some a) :: av) X X2 rv2) (hk : kdx X.1 a = c1 + 1) (hcl : vwCl[c1]? = some (y2.cls, T, N)) (hlk : Cond.methodLink y.cls i y2 ∈ tGd) (hw : Cond.instanceMethod y2 ∈ tGd ∧ Cond.selects y2.cls y2 y2 ∈ tGd ∧ Cond.initialized y2.cls ∈ tGd ∧ Cond.code y2 cc2 nL2 rty2 ∈ tGd ∧ okM y2 n) (hn : av.length = n) (hd2 : d2 + 1 ≤ RR.frames ∧ 8 + (nL2 + 11) + w2 ≤ RR.locals) (hs : (S.map ctx).sum ≤ 8) (hm : nxx X.1 ≤ nxx X2.1 ∧ slx X.1 ≤ slx X2.1) (hb : Bdx RR σ0 X.1 → Bdx RR σ0 X2.1) (h : Wm G l y cc nL rty Ex RR σ0 QQ X2 (pc + 3) L (rv2.toList ++ S)) : Wm G l y cc nL rty Ex RR σ0 QQ X pc L (av.reverse ++ vR (some a) :: S) := by
  intro p e s m args below meth c H locs ls C hB hP hl
  have hb2 := hb hB
  have hts := C.1.2.2.2.2
  have hlt : c1 < 13 := (List.getElem?_eq_some_iff.mp hcl).1
  have hat := (hP.1.1 a (by rw [hk]; omega) (kd_not0 hP.1 hk (by omega))).2.2
  rw [cEx_obj hk hlt] at hat
  have hrc := va_recv C.2.2.2.2.1.1 (P_one hat) hcl (q0 := 0) rfl
  refine call_go C hB hP hl (va_runV (As := av.map (cvx G)) (C := y2.cls) (n := n) (bytes := cc2) (maxL := nL2) (ret := rty2) C.1 hC ⟨callB_of n hts (tG_cons hw.2.2.2.1) rfl rfl rfl (hts _ hw.2.2.1) (hts _ hlk) hw.2.2.2.2 hd2, hts _ hw.1, hts _ hw.2.1⟩ ⟨Pxx_blind, hrc, Pxx_at C hP (vR (some a) :: av)⟩ rfl (by rw [List.length_map]; exact hn) hl.1 (by show List.map (cvx G) (av.reverse ++ vR (some a) :: S) = _; rw [List.map_append, List.map_reverse]; rfl) (cat_room hs) hd ⟨?_, ?_⟩) hm hb2 h
  · have := hb2.2.2.1; have := hB.1; omega
  · have := hb2.2.2.2; have := hB.2.1; omega
/-- a constructor -/
theorem r_callI {a : Nat} (hd : decode cc pc = .ok (.invokespecial i, 3)) (hC : Con G l y2 cc2 nL2 none d2 w2 (vR (some a) :: av) X X2 rv2) (hlk : Cond.methodLink y.cls i y2 ∈ tGd) (hy : y2.name = "<init>") (hw : Cond.instanceMethod y2 ∈ tGd ∧ Cond.initialized y2.cls ∈ tGd ∧ Cond.code y2 cc2 nL2 none ∈ tGd ∧ okM y2 n) (hn : av.length = n) (hd2 : d2 + 1 ≤ RR.frames ∧ 8 + (nL2 + 11) + w2 ≤ RR.locals) (hs : (S.map ctx).sum ≤ 8) (hm : nxx X.1 ≤ nxx X2.1 ∧ slx X.1 ≤ slx X2.1) (hb : Bdx RR σ0 X.1 → Bdx RR σ0 X2.1) (h : Wm G l y cc nL rty Ex RR σ0 QQ X2 (pc + 3) L (rv2.toList ++ S)) : Wm G l y cc nL rty Ex RR σ0 QQ X pc L (av.reverse ++ vR (some a) :: S) := by
  intro p e s m args below meth c H locs ls C hB hP hl
  have hb2 := hb hB
  have hts := C.1.2.2.2.2
  refine call_go C hB hP hl (va_runI (As := av.map (cvx G)) (n := n) (bytes := cc2) (maxL := nL2) C.1 hC ⟨callB_of n hts (tG_cons hw.2.2.1) rfl rfl rfl (hts _ hw.2.1) (hts _ hlk) hw.2.2.2 hd2, hy, hts _ hw.1⟩ ⟨Pxx_blind, Pxx_at C hP (vR (some a) :: av)⟩ rfl (by rw [List.length_map]; exact hn) hl.1 (by show List.map (cvx G) (av.reverse ++ vR (some a) :: S) = _; rw [List.map_append, List.map_reverse]; rfl) (cat_room hs) hd ⟨?_, ?_⟩) hm hb2 h
  · have := hb2.2.2.1; have := hB.1; omega
  · have := hb2.2.2.2; have := hB.2.1; omega
theorem r_callIN {a : Nat} {host : String} (hd : decode cc pc = .ok (.invokespecial i, 3)) (hC : Con G l y2 cc2 nL2 none d2 w2 (vR (some a) :: av) X X2 rv2) (hlk : Cond.methodLinkNest y.cls i y2 host ∈ nestW) (hy : y2.name = "<init>") (hw : Cond.instanceMethod y2 ∈ tGd ∧ Cond.initialized y2.cls ∈ tGd ∧ Cond.code y2 cc2 nL2 none ∈ tGd ∧ okM y2 n) (hn : av.length = n) (hd2 : d2 + 1 ≤ RR.frames ∧ 8 + (nL2 + 11) + w2 ≤ RR.locals) (hs : (S.map ctx).sum ≤ 8) (hm : nxx X.1 ≤ nxx X2.1 ∧ slx X.1 ≤ slx X2.1) (hb : Bdx RR σ0 X.1 → Bdx RR σ0 X2.1) (h : Wm G l y cc nL rty Ex RR σ0 QQ X2 (pc + 3) L (rv2.toList ++ S)) : Wm G l y cc nL rty Ex RR σ0 QQ X pc L (av.reverse ++ vR (some a) :: S) := by
  intro p e s m args below meth c H locs ls C hB hP hl
  have hb2 := hb hB
  have hts := C.1.2.2.2.2
  refine call_go C hB hP hl (va_runIN (As := av.map (cvx G)) (n := n) (bytes := cc2) (maxL := nL2) C.1 hC ⟨va_cnB n hts (tG_cons hw.2.2.1) rfl rfl rfl (C.2.2.2.2.1.2.1 _ hlk) (hts _ hw.2.1) hw.2.2.2 hd2, hy, hts _ hw.1⟩ ⟨Pxx_blind, Pxx_at C hP (vR (some a) :: av)⟩ rfl (by rw [List.length_map]; exact hn) hl.1 (by show List.map (cvx G) (av.reverse ++ vR (some a) :: S) = _; rw [List.map_append, List.map_reverse]; rfl) (cat_room hs) hd ⟨?_, ?_⟩) hm hb2 h
  · have := hb2.2.2.1; have := hB.1; omega
  · have := hb2.2.2.2; have := hB.2.1; omega
theorem r_objInit {a : Nat} (hd : decode cc pc = .ok (.invokespecial i, 3)) (hlk : Cond.methodLink y.cls i Lib.objectInit ∈ tGd) (hin : Cond.instanceMethod Lib.objectInit ∈ tGd) (hco : Cond.code Lib.objectInit ⟨#[0xb1]⟩ 1 none ∈ tGd) (hf : 1 ≤ RR.frames) (hs : (S.map ctx).sum ≤ 8) (hlo : 20 ≤ RR.locals) (h : Wm G l y cc nL rty Ex RR σ0 QQ X (pc + 3) L S) : Wm G l y cc nL rty Ex RR σ0 QQ X pc L (vR (some a) :: S) := by
  intro p e s m args below meth c H locs ls C hB hP hl
  have hts := C.1.2.2.2.2
  have hr := cat_room (G := G) (m := m) (pc := pc) (ls := ls) (st0 := (vR (some a) :: S).map (cvx G)) hs
  exact W.objInit C.1.1 C.1.2.1 C.1.2.2.2.1 (hts _ hlk) (hts _ hin) (hts _ hco) rfl (hl.1.trans C.1.2.2.1.symm) rfl hd hf (by omega) (h p e s m args below meth c H locs ls C hB hP hl)
end RWC
/-! ===== a contract out of its walk ===== -/
def lav : Nat → List SV → List (Nat × SV)
  | _, [] => []
  | i, v :: vs => (i, v) :: lav (if ctx v = 2 then i + 2 else i + 1) vs
theorem lav_cv (G : Gx) : ∀ (av : List SV) (i : Nat), lv_args i (av.map (cvx G)) = cvL G (lav i av)
  | [], _ => rfl
  | v :: vs, i => by
    show (i, cvx G v) :: lv_args (if (cvx G v).category = 2 then i + 2 else i + 1) (vs.map (cvx G)) = (i, cvx G v) :: cvL G (lav (if ctx v = 2 then i + 2 else i + 1) vs)
    rw [ctx_cat, lav_cv G vs]
theorem sl_len (G : Gx) : ∀ (av : List SV), (lg_sl (av.map (cvx G))).length = (av.map ctx).sum
  | [] => rfl
  | v :: vs => by
    have ih := sl_len G vs
    unfold lg_sl at ih ⊢
    rw [List.map_cons, List.flatMap_cons, List.length_append, ih, List.map_cons, List.sum_cons, ctx_cat]
    rcases v with x | x | x | r <;> simp [ctx]
theorem Con.mk {G : Gx} {l : Launch} {y : MethodName} {cc : ByteArray} {nL : Nat} {rty : Option FieldType} {d w : Nat} {av : List SV} {X X1 : Stt} {rv : Option SV} {L : List (Nat × SV)} (hy : plainName y.cls = true) (hL : lav 0 av = L) (hn : (av.map ctx).sum ≤ nL)
    (h : Wm G l y cc nL rty (fun _ => True) (rmx d w X.1 X1.1) X.1 (Qmx G X.1 X1 rv) X 0 L []) : Con G l y cc nL rty d w av X X1 rv := by
  refine Met.ofW (cc := cc) (maxL := nL) (ret := rty) hy rfl ?_
  intro p e s m args below meth c s₁ B hml hv
  obtain ⟨rfl, hX, hK, hS, hz⟩ := hv
  have hts := atoms_spec (ws := Cond.code y cc nL rty :: tGd) B.pre
  have hown : s.vm.findClass y.cls = some m.cls := findClass_of_methodNamed B.named
  have hl := lv_entry (av.map (cvx G)) (n := nL) (by rw [sl_len]; exact hn)
  rw [lg_entry_eq]
  generalize (lg_sl (av.map (cvx G)) ++ List.replicate (nL - (lg_sl (av.map (cvx G))).length) Slot.unset).toArray = ls at hl ⊢
  rw [lav_cv, hL] at hl
  have h7 := h p e s m (av.map (cvx G)).toArray below meth c s.heap [] ls ⟨⟨B.exec, B.bytes, hml, hown, fun w hw => hts w (List.mem_cons_of_mem _ hw)⟩, B.returns, B.notSynchronized, (name_of_methodNamed B.named B.method).1, hK, hS, hz, trivial⟩ ⟨Nat.le_refl _, Nat.le_refl _, by rw [Nat.sub_self]; exact Nat.zero_le _, by rw [Nat.sub_self]; exact Nat.zero_le _⟩ ⟨hX, va_S.rf⟩ hl
  rw [Nat.sub_self, Nat.sub_self] at h7
  exact h7
