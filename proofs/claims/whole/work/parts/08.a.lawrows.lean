/-! ===== the law ===== -/
def R_law : String := "GlassHouseLaw"
def lw_P (b : Addr) (xs : List Int32) (args : Array Value) (s : State) : Prop := args = #[.ref b] ∧ s.IntsAt b xs ∧ xs.length ≤ 3584 ∧ (Jvm.Cond.and given_1 narrow_1).before args s = true
theorem lw_closed {s t : State} {o : Outcome} {d0 : Drawn} {L : List Loc} {k n : Nat} (hd0 : s.drawn.sameBut d0 lw_cs) (hv : ∃ v, o = .returned v) (hW : (s.setDrawn d0).WarmedH t.vm) (hs : (s.setDrawn d0).sameButNew ({ t with vm := s.vm } : State) L k n) : State.butDraws s t lw_cs (fun t1 => Framed s o t1 L k n) := by
  have h2 : t.drawn = d0 := congrArg State.drawn hs.1
  refine ⟨⟨hv, hW, State.sameButNew.setDrawn hs s.drawn⟩, ?_, by decide⟩
  rw [h2]
  exact hd0
def lw_Q (_ : Array Value) (s : State) (o : Outcome) (t : State) : Prop := o = .returned (some (.int 1)) ∧ State.butDraws s t lw_cs (fun t1 => Framed s o t1 [] room_1.cells room_1.slots)
def lw_Z (below : List Frame) (a : Array Value) (s : State) : State → Prop := fun t => ∃ o, t.status = .running ∧ Ended t below o ∧ lw_Q a s o t
theorem lw_retA {p : Program} {l : Launch} {e : Env} {s : State} {m : MethodId} {below : List Frame} {meth : Method} {c : Code} {args : Array Value} {d0 : Drawn} (hd0 : s.drawn.sameBut d0 lw_cs) (hx : p.tables.exec = Jvm.exec) (hb : c.code = code) (hr : meth.sig.returnType = ret) (hlocks : meth.locks = false) {pc : Nat} {H : Heap} {ls : Array Slot} (hdg : decode code pc = .ok (.ireturn, 1)) : W p l e room_1 (s.setDrawn d0) m args below meth c H [] room_1.cells room_1.slots (lw_Z below args s) (F0 m pc ls [.int 1]) := by
  intro T hT X
  obtain ⟨fs, hret, hrun, hended, hW, hframe⟩ := X.leave (v := some (.int 1)) (hlocks := hlocks) (fun h => by rw [hr] at h; cases h)
  have hmeth' : T.vm.method? m = some meth := X.method'
  refine ⟨T.setFrames fs, ?_, .returned (some (.int 1)), hrun, hended, rfl, lw_closed hd0 ⟨_, rfl⟩ hW hframe⟩
  jvm_step X.here [X.here.top, hx, hb, hdg, hmeth', hr, ret, narrow_b1]
  (try refine ⟨rfl, ?_⟩); (try refine ⟨rfl, ?_⟩)
  first | (intro acts; rw [hret _ acts rfl rfl rfl]) | rw [hret _ _ rfl rfl rfl]
  exact Steps.refl _
def ExL (G : Gx) (Lg : Nat) (xs : Nat → Int32) : State → Prop := fun s => va_X (G.2.2.2 3) Lg xs s s.heap ∧ G.2.2.2 3 < s.heap.size ∧ s.heap.size ≤ G.2.2.1
abbrev WLaw (G : Gx) (l : Launch) (xs : Nat → Int32) (Lg : Nat) (σ0 : Shp) : Stt → Nat → List (Nat × SV) → List SV → Prop := Wm G l yL_law cL_law 4 (some .boolean) (ExL G Lg xs) room_1 σ0 lw_Z
theorem bdL {σ0 σ σ2 : Shp} (h1 : Lex σ σ2) (h2 : nxx σ2 ≤ 600000 ∧ slx σ2 ≤ 7300000) (b : Bdx room_1 σ0 σ) : Bdx room_1 σ0 σ2 :=
  ⟨Nat.le_trans b.1 h1.1, Nat.le_trans b.2.1 h1.2, Nat.le_trans (Nat.sub_le _ _) (Nat.le_trans h2.1 (by decide)), Nat.le_trans (Nat.sub_le _ _) (Nat.le_trans h2.2 (by decide))⟩
section RWL
variable {G : Gx} {l : Launch} {xs : Nat → Int32} {Lg : Nat} {σ0 : Shp} {X : Stt} {pc : Nat} {L : List (Nat × SV)} {S : List SV}
theorem r_scld {i : Int32} (hd : decode cL_law pc = .ok (.iaload, 1)) (hi : vp_in i Lg) (h : WLaw G l xs Lg σ0 X (pc + 1) L (vI (xs i.toNatClampNeg) :: S)) : WLaw G l xs Lg σ0 X pc L (vI i :: vR (some 3) :: S) :=
  fun p e s m args below meth c H locs ls C hB hP hl => va_sld C.1.1 C.1.2.1 C.2.2.2.2.2.2.2.1 C.2.2.2.2.2.2.2.2.1 (Nat.not_le.mpr (Nat.lt_of_lt_of_le C.2.2.2.2.2.2.2.2.1 C.2.2.2.2.2.2.2.2.2)) hP.2 hi hd (h p e s m args below meth c H locs ls C hB hP hl)
theorem r_sclen (hd : decode cL_law pc = .ok (.arraylength, 1)) (h : WLaw G l xs Lg σ0 X (pc + 1) L (vI (Int32.ofNat Lg) :: S)) : WLaw G l xs Lg σ0 X pc L (vR (some 3) :: S) :=
  fun p e s m args below meth c H locs ls C hB hP hl => va_slen C.1.1 C.1.2.1 C.2.2.2.2.2.2.2.1 C.2.2.2.2.2.2.2.2.1 (Nat.not_le.mpr (Nat.lt_of_lt_of_le C.2.2.2.2.2.2.2.2.1 C.2.2.2.2.2.2.2.2.2)) hP.2 hd (h p e s m args below meth c H locs ls C hB hP hl)
theorem r_lawret {v : Int32} (hd : decode cL_law pc = .ok (.ireturn, 1)) (hv : v = 1) : WLaw G l xs Lg σ0 X pc L [vI v] := by
  intro p e s m args below meth c H locs ls C hB hP hl
  subst hv
  refine va_forget (fun q hq => Nat.le_trans C.2.2.2.2.2.2.2.2.2 (hP.2.2.2 q hq)) ?_
  refine W.widen (k := room_1.cells) (n := room_1.slots) hB.2.2.1 hB.2.2.2 ?_
  refine W.base ?_
  exact lw_retA (Drawn.sameBut.refl s.drawn lw_cs) C.1.1 C.1.2.1 C.2.1 C.2.2.1 hd
end RWL
