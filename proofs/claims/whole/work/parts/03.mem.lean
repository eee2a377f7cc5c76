/-! ===== the memory of both systems, as functions; the judgement Wm ===== -/
abbrev Shp : Type := (Nat × Nat) × (Nat → Nat) × (Nat → Nat)
abbrev Stt : Type := Shp × (Nat → Nat → Int32) × (Nat → Nat → Int64) × (Nat → Nat → UInt64) × (Nat → Nat → Option Nat)
def nxx (σ : Shp) : Nat := σ.1.1
def slx (σ : Shp) : Nat := σ.1.2
def kdx (σ : Shp) : Nat → Nat := σ.2.1
def lnx (σ : Shp) : Nat → Nat := σ.2.2
def u2 {α : Type} (f : Nat → Nat → α) (a k : Nat) (v : α) : Nat → Nat → α := fun b j => if b = a ∧ j = k then v else f b j
def u1 {α : Type} (f : Nat → α) (a : Nat) (v : α) : Nat → α := fun b => if b = a then v else f b
theorem u2_self {α : Type} (f : Nat → Nat → α) (a k : Nat) (v : α) : u2 f a k v a k = v := if_pos ⟨rfl, rfl⟩
theorem u2_ne {α : Type} {f : Nat → Nat → α} {a k b j : Nat} {v : α} (h : b = a → j ≠ k) : u2 f a k v b j = f b j := if_neg (fun q => h q.1 q.2)
theorem u2_off {α : Type} {f : Nat → Nat → α} {a k b : Nat} {v : α} (h : b ≠ a) : u2 f a k v b = f b := funext fun _ => if_neg (fun q => h q.1)
theorem u1_self {α : Type} (f : Nat → α) (a : Nat) (v : α) : u1 f a v a = v := if_pos rfl
theorem u1_ne {α : Type} {f : Nat → α} {a b : Nat} {v : α} (h : b ≠ a) : u1 f a v b = f b := if_neg h
/-- a new object of kind t (class t - 1) with n fields -/
def mkO (σ : Shp) (t n : Nat) : Shp := ((nxx σ + 1, slx σ + n), u1 (kdx σ) (nxx σ + 4) t, lnx σ)
/-- a new array of kind t with n elements -/
def mkA (σ : Shp) (t n : Nat) : Shp := ((nxx σ + 1, slx σ + n), u1 (kdx σ) (nxx σ + 4) t, u1 (lnx σ) (nxx σ + 4) n)
abbrev SV : Type := Int32 ⊕ Int64 ⊕ UInt64 ⊕ Option Nat
abbrev vI (x : Int32) : SV := .inl x
abbrev vL (x : Int64) : SV := .inr (.inl x)
abbrev vD (x : UInt64) : SV := .inr (.inr (.inl x))
abbrev vR (r : Option Nat) : SV := .inr (.inr (.inr r))
abbrev Gx : Type := va_G × (Nat → ClassId) × Nat × (Nat → Nat)
def adx (G : Gx) : Nat → Nat
  | 0 => G.2.2.2 0
  | 1 => G.2.2.2 1
  | 2 => G.2.2.2 2
  | 3 => G.2.2.2 3
  | k + 4 => G.2.2.1 + k
def cvx (G : Gx) : SV → Value
  | .inl x => .int x
  | .inr (.inl x) => .long x
  | .inr (.inr (.inl x)) => .double x
  | .inr (.inr (.inr r)) => va_rf (r.map (adx G))
def ctx (v : SV) : Nat := match v with
  | .inl _ => 1
  | .inr (.inl _) => 2
  | .inr (.inr (.inl _)) => 2
  | .inr (.inr (.inr _)) => 1
theorem ctx_cat (G : Gx) (v : SV) : (cvx G v).category = ctx v := by
  rcases v with x | x | x | r <;> first | rfl | (cases r <;> rfl)
def cvL (G : Gx) (L : List (Nat × SV)) : List (Nat × Value) := L.map (fun q => (q.1, cvx G q.2))
/-- the locals behind a store of one slot, of two -/
def ls1 (i : Nat) (v : SV) (L : List (Nat × SV)) : List (Nat × SV) := (i, v) :: L.filter (fun q => !(q.1 == i) && !(q.1 + 1 == i && ctx q.2 == 2))
def ls2 (i : Nat) (v : SV) (L : List (Nat × SV)) : List (Nat × SV) := (i, v) :: L.filter (fun q => !(q.1 == i) && (!(q.1 == i + 1) && !(q.1 + 1 == i && ctx q.2 == 2)))
theorem ls1_cv (G : Gx) (i : Nat) (v : SV) (L : List (Nat × SV)) : (i, cvx G v) :: (cvL G L).filter (fun q => !(q.1 == i) && !(q.1 + 1 == i && q.2.category == 2)) = cvL G (ls1 i v L) := by
  unfold cvL ls1
  rw [List.map_cons, List.filter_map]
  congr 2
  refine List.filter_congr fun q _ => ?_
  simp [ctx_cat]
theorem ls2_cv (G : Gx) (i : Nat) (v : SV) (L : List (Nat × SV)) : (i, cvx G v) :: (cvL G L).filter (fun q => !(q.1 == i) && (!(q.1 == i + 1) && !(q.1 + 1 == i && q.2.category == 2))) = cvL G (ls2 i v L) := by
  unfold cvL ls2
  rw [List.map_cons, List.filter_map]
  congr 2
  refine List.filter_congr fun q _ => ?_
  simp [ctx_cat]
def fty : Nat → Nat → FieldType
  | 0 => tyX0
  | 1 => tyX1
  | 2 => tyX2
  | 3 => tyX3
  | 4 => tyX4
  | 5 => tyX5
  | 6 => tyX6
  | 7 => tyX7
  | 8 => tyX8
  | 9 => tyX9
  | 10 => tyX10
  | 11 => tyX11
  | _ => tyX12
def nFs : Nat → Nat
  | 0 => 3
  | 1 => 7
  | 2 => 8
  | 3 => 13
  | 4 => 14
  | 5 => 10
  | 6 => 7
  | 7 => 14
  | 8 => 7
  | 9 => 9
  | 10 => 9
  | 11 => 20
  | _ => 135
def fvx (G : Gx) (X : Stt) (ty : FieldType) (a k : Nat) : Value := match ty with
  | .long => .long (X.2.2.1 a k)
  | .double => .double (X.2.2.2.1 a k)
  | .object _ => va_rf ((X.2.2.2.2 a k).map (adx G))
  | .array _ => va_rf ((X.2.2.2.2 a k).map (adx G))
  | _ => .int (X.2.1 a k)
def cEx (G : Gx) (X : Stt) (a : Nat) : va_E :=
  if kdx X.1 a = 21 then .inl (G.2.1 21, lnx X.1 a, .inr (.inl (X.2.2.1 a)))
  else if kdx X.1 a = 25 then .inl (G.2.1 25, lnx X.1 a, .inr (.inr (.inr (.inl (X.2.2.2.1 a)))))
  else if 26 ≤ kdx X.1 a then .inl (G.2.1 (kdx X.1 a), lnx X.1 a, .inr (.inr (.inr (.inr (fun j => (X.2.2.2.2 a j).map (adx G))))))
  else if 20 ≤ kdx X.1 a then .inl (G.2.1 (kdx X.1 a), lnx X.1 a, .inl (X.2.1 a))
  else .inr (kdx X.1 a - 1, (List.range (nFs (kdx X.1 a - 1))).map (fun k => fvx G X (fty (kdx X.1 a - 1) k) a k))
abbrev Az (G : Gx) : Nat → Prop := fun q => G.2.2.1 ≤ q
def Hx (G : Gx) (X : Stt) (H : Heap) : Prop :=
  (∀ a, kdx X.1 a ≠ 0 → a ≠ 0 → 4 ≤ a ∧ a < nxx X.1 + 4 ∧ va_at G.1 vwCl (adx G a, cEx G X a) H) ∧ H.size = G.2.2.1 + nxx X.1 ∧ kdx X.1 0 = 21 ∧ lnx X.1 0 = 0 ∧ (∀ a, nxx X.1 + 4 ≤ a → kdx X.1 a = 0 ∧ ∀ k, X.2.1 a k = 0 ∧ X.2.2.1 a k = 0 ∧ X.2.2.2.1 a k = 0 ∧ X.2.2.2.2 a k = none)
def tysx (G : Gx) : List (ClassId × FieldType) := [(G.2.1 20, .int), (G.2.1 21, .long), (G.2.1 22, .byte), (G.2.1 23, .short), (G.2.1 24, .boolean), (G.2.1 25, .double), (G.2.1 26, .object "GlassHouse$Thing"), (G.2.1 27, .object "GlassHouse$Frame"), (G.2.1 28, .array .int), (G.2.1 29, .array .long)]
def isNest (w : Cond) : Bool := match w with
  | .methodLinkNest _ _ _ _ => true
  | _ => false
def nestW : List Cond := lw_tbl.filter isNest
def tGd : List Cond := lw_tbl.filter goodWord
def LEASTc : Nat → Int32
  | 1 => -40000
  | _ => 0
def MOSTc : Nat → Int32
  | 0 => 1000
  | 1 => 60000
  | 2 => 40000
  | _ => 1
/-- what the tables say, kept from start to end -/
def Kx (G : Gx) (U : State) : Prop := va_K G.1 vwCl (tysx G) U ∧ (∀ w ∈ nestW, va_Nw w U) ∧ va_AO "GlassHouse$Thing" U ∧ va_AO "GlassHouse$Frame" U ∧ va_AOA .int U ∧ va_AOA .long U
/-- the static arrays -/
def Sx (G : Gx) (U : State) (H : Heap) : Prop :=
  va_Z "GlassHouse" "NO_CELLS" "[J" (.ref (G.2.2.2 0)) (Az G) U H ∧ va_T .long (G.2.2.2 0) 0 (fun _ => .long 0) (Az G) U H ∧
  va_Z "GlassHouse$Houses" "LEAST" "[I" (.ref (G.2.2.2 1)) (Az G) U H ∧ va_T .int (G.2.2.2 1) 5 (fun j => .int (LEASTc j)) (Az G) U H ∧
  va_Z "GlassHouse$Houses" "MOST" "[I" (.ref (G.2.2.2 2)) (Az G) U H ∧ va_T .int (G.2.2.2 2) 5 (fun j => .int (MOSTc j)) (Az G) U H
def Cxx (G : Gx) (y : MethodName) (cc : ByteArray) (nL : Nat) (rty : Option FieldType) (Ex : State → Prop) (p : Program) (s : State) (m : MethodId) (args : Array Value) (meth : Method) (c : Code) : Prop :=
  CallFix p m c cc nL s args tGd y.cls ∧ meth.sig.returnType = rty ∧ meth.locks = false ∧ meth.name = y.name ∧ Kx G s ∧ Sx G s s.heap ∧ G.2.2.1 ≤ s.heap.size ∧ Ex s
def Hpx (G : Gx) (s : State) (X : Stt) (H : Heap) (locs : List Loc) : Prop := Hx G X H ∧ va_S (Az G) s.heap H locs
def Qxx (G : Gx) (X1 : Stt) (rv : Option SV) : Array Value → State → Outcome → State → Prop := fun _ st o t => o = .returned (rv.map (cvx G)) ∧ Hx G X1 t.heap ∧ va_F (Az G) st t
def Pxx (G : Gx) (av : List SV) (X : Stt) : Array Value → State → Prop := va_Pc (av.map (cvx G)) (fun U => Hx G X U.heap ∧ Kx G U ∧ Sx G U U.heap ∧ G.2.2.1 ≤ U.heap.size)
def rmx (d w : Nat) (σ σ1 : Shp) : Room := { frames := d, cells := nxx σ1 - nxx σ, slots := slx σ1 - slx σ, locals := w }
/-- the contract of a method: from the memory X with the arguments av it comes to X1 and answers rv -/
def Con (G : Gx) (l : Launch) (y : MethodName) (cc : ByteArray) (nL : Nat) (rty : Option FieldType) (d w : Nat) (av : List SV) (X X1 : Stt) (rv : Option SV) : Prop :=
  Met l y (Cond.code y cc nL rty :: tGd) (rmx d w X.1 X1.1) (Pxx G av X) (Qxx G X1 rv) (nxx X1.1 - nxx X.1) (slx X1.1 - slx X.1) (Az G)
/-- the room that is left -/
def Bdx (R : Room) (σ0 σ : Shp) : Prop := nxx σ0 ≤ nxx σ ∧ slx σ0 ≤ slx σ ∧ nxx σ - nxx σ0 ≤ R.cells ∧ slx σ - slx σ0 ≤ R.slots
def Wm (G : Gx) (l : Launch) (y : MethodName) (cc : ByteArray) (nL : Nat) (rty : Option FieldType) (Ex : State → Prop) (R : Room) (σ0 : Shp) (Q : List Frame → Array Value → State → State → Prop) (X : Stt) (pc : Nat) (L : List (Nat × SV)) (S : List SV) : Prop :=
  ∀ (p : Program) (e : Env) (s : State) (m : MethodId) (args : Array Value) (below : List Frame) (meth : Method) (c : Code) (H : Heap) (locs : List Loc) (ls : Array Slot),
    Cxx G y cc nL rty Ex p s m args meth c → Bdx R σ0 X.1 → Hpx G s X H locs → lv_has ls nL (cvL G L) →
    W p l e R s m args below meth c H locs (nxx X.1 - nxx σ0) (slx X.1 - slx σ0) (Q below args s) (F0 m pc ls (S.map (cvx G)))
/-- a method's own end -/
def Qmx (G : Gx) (σ0 : Shp) (X1 : Stt) (rv : Option SV) : List Frame → Array Value → State → State → Prop := fun below args s => MQ below (Qxx G X1 rv) args s (nxx X1.1 - nxx σ0) (slx X1.1 - slx σ0) (Az G)
theorem lvk {G : Gx} {L : List (Nat × SV)} {k i : Nat} {v : SV} (h : L[k]? = some (i, v)) : (cvL G L)[k]? = some (i, cvx G v) := by
  unfold cvL
  rw [List.getElem?_map, h]
  rfl
theorem lvx {G : Gx} {L : List (Nat × SV)} {ls : Array Slot} {nL k i : Nat} {v : SV} (hl : lv_has ls nL (cvL G L)) (h : L[k]? = some (i, v)) : ls[i]? = some (.val (cvx G v)) := lv_at hl k (lvk h)
section RWS
variable {G : Gx} {l : Launch} {y : MethodName} {cc : ByteArray} {nL : Nat} {rty : Option FieldType} {Ex : State → Prop} {RR : Room} {σ0 : Shp} {QQ : List Frame → Array Value → State → State → Prop} {X : Stt} {pc : Nat} {L : List (Nat × SV)} {S : List SV}

theorem r_iadd {a b : Int32} (hd : decode cc pc = .ok (.iadd, 1)) (h : Wm G l y cc nL rty Ex RR σ0 QQ X (pc + 1) L (vI (a + b) :: S)) : Wm G l y cc nL rty Ex RR σ0 QQ X pc L (vI b :: vI a :: S) :=
  fun p e s m args below meth c H locs ls C hB hP hl => lv_iadd C.1.1 C.1.2.1 hd (h p e s m args below meth c H locs ls C hB hP hl)
theorem r_isub {a b : Int32} (hd : decode cc pc = .ok (.isub, 1)) (h : Wm G l y cc nL rty Ex RR σ0 QQ X (pc + 1) L (vI (a - b) :: S)) : Wm G l y cc nL rty Ex RR σ0 QQ X pc L (vI b :: vI a :: S) :=
  fun p e s m args below meth c H locs ls C hB hP hl => lv_isub C.1.1 C.1.2.1 hd (h p e s m args below meth c H locs ls C hB hP hl)
theorem r_imul {a b : Int32} (hd : decode cc pc = .ok (.imul, 1)) (h : Wm G l y cc nL rty Ex RR σ0 QQ X (pc + 1) L (vI (a * b) :: S)) : Wm G l y cc nL rty Ex RR σ0 QQ X pc L (vI b :: vI a :: S) :=
  fun p e s m args below meth c H locs ls C hB hP hl => lv_imul C.1.1 C.1.2.1 hd (h p e s m args below meth c H locs ls C hB hP hl)
theorem r_iand {a b : Int32} (hd : decode cc pc = .ok (.iand, 1)) (h : Wm G l y cc nL rty Ex RR σ0 QQ X (pc + 1) L (vI (a &&& b) :: S)) : Wm G l y cc nL rty Ex RR σ0 QQ X pc L (vI b :: vI a :: S) :=
  fun p e s m args below meth c H locs ls C hB hP hl => lv_iand C.1.1 C.1.2.1 hd (h p e s m args below meth c H locs ls C hB hP hl)
theorem r_ior {a b : Int32} (hd : decode cc pc = .ok (.ior, 1)) (h : Wm G l y cc nL rty Ex RR σ0 QQ X (pc + 1) L (vI (a ||| b) :: S)) : Wm G l y cc nL rty Ex RR σ0 QQ X pc L (vI b :: vI a :: S) :=
  fun p e s m args below meth c H locs ls C hB hP hl => lv_ior C.1.1 C.1.2.1 hd (h p e s m args below meth c H locs ls C hB hP hl)
theorem r_ixor {a b : Int32} (hd : decode cc pc = .ok (.ixor, 1)) (h : Wm G l y cc nL rty Ex RR σ0 QQ X (pc + 1) L (vI (a ^^^ b) :: S)) : Wm G l y cc nL rty Ex RR σ0 QQ X pc L (vI b :: vI a :: S) :=
  fun p e s m args below meth c H locs ls C hB hP hl => lv_ixor C.1.1 C.1.2.1 hd (h p e s m args below meth c H locs ls C hB hP hl)
theorem r_ishl {a b : Int32} (hd : decode cc pc = .ok (.ishl, 1)) (h : Wm G l y cc nL rty Ex RR σ0 QQ X (pc + 1) L (vI (a <<< (b &&& 31)) :: S)) : Wm G l y cc nL rty Ex RR σ0 QQ X pc L (vI b :: vI a :: S) :=
  fun p e s m args below meth c H locs ls C hB hP hl => lv_ishl C.1.1 C.1.2.1 hd (h p e s m args below meth c H locs ls C hB hP hl)
theorem r_ishr {a b : Int32} (hd : decode cc pc = .ok (.ishr, 1)) (h : Wm G l y cc nL rty Ex RR σ0 QQ X (pc + 1) L (vI (a >>> (b &&& 31)) :: S)) : Wm G l y cc nL rty Ex RR σ0 QQ X pc L (vI b :: vI a :: S) :=
  fun p e s m args below meth c H locs ls C hB hP hl => lv_ishr C.1.1 C.1.2.1 hd (h p e s m args below meth c H locs ls C hB hP hl)
theorem r_ladd {a b : Int64} (hd : decode cc pc = .ok (.ladd, 1)) (h : Wm G l y cc nL rty Ex RR σ0 QQ X (pc + 1) L (vL (a + b) :: S)) : Wm G l y cc nL rty Ex RR σ0 QQ X pc L (vL b :: vL a :: S) :=
  fun p e s m args below meth c H locs ls C hB hP hl => lv_ladd C.1.1 C.1.2.1 hd (h p e s m args below meth c H locs ls C hB hP hl)
theorem r_lsub {a b : Int64} (hd : decode cc pc = .ok (.lsub, 1)) (h : Wm G l y cc nL rty Ex RR σ0 QQ X (pc + 1) L (vL (a - b) :: S)) : Wm G l y cc nL rty Ex RR σ0 QQ X pc L (vL b :: vL a :: S) :=
  fun p e s m args below meth c H locs ls C hB hP hl => lv_lsub C.1.1 C.1.2.1 hd (h p e s m args below meth c H locs ls C hB hP hl)
theorem r_lmul {a b : Int64} (hd : decode cc pc = .ok (.lmul, 1)) (h : Wm G l y cc nL rty Ex RR σ0 QQ X (pc + 1) L (vL (a * b) :: S)) : Wm G l y cc nL rty Ex RR σ0 QQ X pc L (vL b :: vL a :: S) :=
  fun p e s m args below meth c H locs ls C hB hP hl => lv_lmul C.1.1 C.1.2.1 hd (h p e s m args below meth c H locs ls C hB hP hl)
theorem r_land {a b : Int64} (hd : decode cc pc = .ok (.land, 1)) (h : Wm G l y cc nL rty Ex RR σ0 QQ X (pc + 1) L (vL (a &&& b) :: S)) : Wm G l y cc nL rty Ex RR σ0 QQ X pc L (vL b :: vL a :: S) :=
  fun p e s m args below meth c H locs ls C hB hP hl => lv_land C.1.1 C.1.2.1 hd (h p e s m args below meth c H locs ls C hB hP hl)
theorem r_lor {a b : Int64} (hd : decode cc pc = .ok (.lor, 1)) (h : Wm G l y cc nL rty Ex RR σ0 QQ X (pc + 1) L (vL (a ||| b) :: S)) : Wm G l y cc nL rty Ex RR σ0 QQ X pc L (vL b :: vL a :: S) :=
  fun p e s m args below meth c H locs ls C hB hP hl => lv_lor C.1.1 C.1.2.1 hd (h p e s m args below meth c H locs ls C hB hP hl)
theorem r_lxor {a b : Int64} (hd : decode cc pc = .ok (.lxor, 1)) (h : Wm G l y cc nL rty Ex RR σ0 QQ X (pc + 1) L (vL (a ^^^ b) :: S)) : Wm G l y cc nL rty Ex RR σ0 QQ X pc L (vL b :: vL a :: S) :=
  fun p e s m args below meth c H locs ls C hB hP hl => lv_lxor C.1.1 C.1.2.1 hd (h p e s m args below meth c H locs ls C hB hP hl)
theorem r_idiv {a b : Int32} (hd : decode cc pc = .ok (.idiv, 1)) (hne : ¬ b = 0) (h : Wm G l y cc nL rty Ex RR σ0 QQ X (pc + 1) L (vI (a / b) :: S)) : Wm G l y cc nL rty Ex RR σ0 QQ X pc L (vI b :: vI a :: S) :=
  fun p e s m args below meth c H locs ls C hB hP hl => lv_idiv C.1.1 C.1.2.1 hd hne (h p e s m args below meth c H locs ls C hB hP hl)
theorem r_irem {a b : Int32} (hd : decode cc pc = .ok (.irem, 1)) (hne : ¬ b = 0) (h : Wm G l y cc nL rty Ex RR σ0 QQ X (pc + 1) L (vI (a - a / b * b) :: S)) : Wm G l y cc nL rty Ex RR σ0 QQ X pc L (vI b :: vI a :: S) :=
  fun p e s m args below meth c H locs ls C hB hP hl => lv_irem C.1.1 C.1.2.1 hd hne (h p e s m args below meth c H locs ls C hB hP hl)
theorem r_ldiv {a b : Int64} (hd : decode cc pc = .ok (.ldiv, 1)) (hne : ¬ b = 0) (h : Wm G l y cc nL rty Ex RR σ0 QQ X (pc + 1) L (vL (a / b) :: S)) : Wm G l y cc nL rty Ex RR σ0 QQ X pc L (vL b :: vL a :: S) :=
  fun p e s m args below meth c H locs ls C hB hP hl => lv_ldiv C.1.1 C.1.2.1 hd hne (h p e s m args below meth c H locs ls C hB hP hl)
theorem r_lrem {a b : Int64} (hd : decode cc pc = .ok (.lrem, 1)) (hne : ¬ b = 0) (h : Wm G l y cc nL rty Ex RR σ0 QQ X (pc + 1) L (vL (a - a / b * b) :: S)) : Wm G l y cc nL rty Ex RR σ0 QQ X pc L (vL b :: vL a :: S) :=
  fun p e s m args below meth c H locs ls C hB hP hl => lv_lrem C.1.1 C.1.2.1 hd hne (h p e s m args below meth c H locs ls C hB hP hl)
theorem r_ineg {a : Int32} (hd : decode cc pc = .ok (.ineg, 1)) (h : Wm G l y cc nL rty Ex RR σ0 QQ X (pc + 1) L (vI (-a) :: S)) : Wm G l y cc nL rty Ex RR σ0 QQ X pc L (vI a :: S) :=
  fun p e s m args below meth c H locs ls C hB hP hl => lv_ineg C.1.1 C.1.2.1 hd (h p e s m args below meth c H locs ls C hB hP hl)
theorem r_lneg {a : Int64} (hd : decode cc pc = .ok (.lneg, 1)) (h : Wm G l y cc nL rty Ex RR σ0 QQ X (pc + 1) L (vL (-a) :: S)) : Wm G l y cc nL rty Ex RR σ0 QQ X pc L (vL a :: S) :=
  fun p e s m args below meth c H locs ls C hB hP hl => lv_lneg C.1.1 C.1.2.1 hd (h p e s m args below meth c H locs ls C hB hP hl)
theorem r_iushr {a b : Int32} (hd : decode cc pc = .ok (.iushr, 1)) (h : Wm G l y cc nL rty Ex RR σ0 QQ X (pc + 1) L (vI ((a.toUInt32 >>> (b.toUInt32 &&& Int32.toUInt32 31)).toInt32) :: S)) : Wm G l y cc nL rty Ex RR σ0 QQ X pc L (vI b :: vI a :: S) :=
  fun p e s m args below meth c H locs ls C hB hP hl => lv_iushr C.1.1 C.1.2.1 hd rfl (h p e s m args below meth c H locs ls C hB hP hl)
theorem r_lshl {a : Int64} {b : Int32} (hd : decode cc pc = .ok (.lshl, 1)) (h : Wm G l y cc nL rty Ex RR σ0 QQ X (pc + 1) L (vL (a <<< (b.toInt64 &&& 63)) :: S)) : Wm G l y cc nL rty Ex RR σ0 QQ X pc L (vI b :: vL a :: S) :=
  fun p e s m args below meth c H locs ls C hB hP hl => lv_lshl C.1.1 C.1.2.1 hd rfl (h p e s m args below meth c H locs ls C hB hP hl)
theorem r_lshr {a : Int64} {b : Int32} (hd : decode cc pc = .ok (.lshr, 1)) (h : Wm G l y cc nL rty Ex RR σ0 QQ X (pc + 1) L (vL (a >>> (b.toInt64 &&& 63)) :: S)) : Wm G l y cc nL rty Ex RR σ0 QQ X pc L (vI b :: vL a :: S) :=
  fun p e s m args below meth c H locs ls C hB hP hl => lv_lshr C.1.1 C.1.2.1 hd rfl (h p e s m args below meth c H locs ls C hB hP hl)
theorem r_lushr {a : Int64} {b : Int32} (hd : decode cc pc = .ok (.lushr, 1)) (h : Wm G l y cc nL rty Ex RR σ0 QQ X (pc + 1) L (vL ((a.toUInt64 >>> (b.toInt64.toUInt64 &&& Int64.toUInt64 63)).toInt64) :: S)) : Wm G l y cc nL rty Ex RR σ0 QQ X pc L (vI b :: vL a :: S) :=
  fun p e s m args below meth c H locs ls C hB hP hl => lv_lushr C.1.1 C.1.2.1 hd rfl (h p e s m args below meth c H locs ls C hB hP hl)
theorem r_i2l {a : Int32} (hd : decode cc pc = .ok (.i2l, 1)) (h : Wm G l y cc nL rty Ex RR σ0 QQ X (pc + 1) L (vL a.toInt64 :: S)) : Wm G l y cc nL rty Ex RR σ0 QQ X pc L (vI a :: S) :=
  fun p e s m args below meth c H locs ls C hB hP hl => lv_i2l C.1.1 C.1.2.1 hd rfl (h p e s m args below meth c H locs ls C hB hP hl)
theorem r_l2i {a : Int64} (hd : decode cc pc = .ok (.l2i, 1)) (h : Wm G l y cc nL rty Ex RR σ0 QQ X (pc + 1) L (vI a.toInt32 :: S)) : Wm G l y cc nL rty Ex RR σ0 QQ X pc L (vL a :: S) :=
  fun p e s m args below meth c H locs ls C hB hP hl => lv_l2i C.1.1 C.1.2.1 hd rfl (h p e s m args below meth c H locs ls C hB hP hl)
theorem r_i2b {a : Int32} (hd : decode cc pc = .ok (.i2b, 1)) (h : Wm G l y cc nL rty Ex RR σ0 QQ X (pc + 1) L (vI a.toInt8.toInt32 :: S)) : Wm G l y cc nL rty Ex RR σ0 QQ X pc L (vI a :: S) :=
  fun p e s m args below meth c H locs ls C hB hP hl => lv_i2b C.1.1 C.1.2.1 hd rfl (h p e s m args below meth c H locs ls C hB hP hl)
theorem r_i2s {a : Int32} (hd : decode cc pc = .ok (.i2s, 1)) (h : Wm G l y cc nL rty Ex RR σ0 QQ X (pc + 1) L (vI a.toInt16.toInt32 :: S)) : Wm G l y cc nL rty Ex RR σ0 QQ X pc L (vI a :: S) :=
  fun p e s m args below meth c H locs ls C hB hP hl => lv_i2s C.1.1 C.1.2.1 hd rfl (h p e s m args below meth c H locs ls C hB hP hl)
theorem r_i2d {a : Int32} (hd : decode cc pc = .ok (.i2d, 1)) (h : Wm G l y cc nL rty Ex RR σ0 QQ X (pc + 1) L (vD (FP.i2d a) :: S)) : Wm G l y cc nL rty Ex RR σ0 QQ X pc L (vI a :: S) :=
  fun p e s m args below meth c H locs ls C hB hP hl => lv_i2d C.1.1 C.1.2.1 hd (h p e s m args below meth c H locs ls C hB hP hl)
theorem r_l2d {a : Int64} (hd : decode cc pc = .ok (.l2d, 1)) (h : Wm G l y cc nL rty Ex RR σ0 QQ X (pc + 1) L (vD (FP.l2d a) :: S)) : Wm G l y cc nL rty Ex RR σ0 QQ X pc L (vL a :: S) :=
  fun p e s m args below meth c H locs ls C hB hP hl => lv_l2d C.1.1 C.1.2.1 hd (h p e s m args below meth c H locs ls C hB hP hl)
theorem r_d2l {a : UInt64} (hd : decode cc pc = .ok (.d2l, 1)) (h : Wm G l y cc nL rty Ex RR σ0 QQ X (pc + 1) L (vL (FP.d2l a) :: S)) : Wm G l y cc nL rty Ex RR σ0 QQ X pc L (vD a :: S) :=
  fun p e s m args below meth c H locs ls C hB hP hl => lv_d2l C.1.1 C.1.2.1 hd (h p e s m args below meth c H locs ls C hB hP hl)
theorem r_dneg {a : UInt64} (hd : decode cc pc = .ok (.dneg, 1)) (h : Wm G l y cc nL rty Ex RR σ0 QQ X (pc + 1) L (vD (FP.dneg a) :: S)) : Wm G l y cc nL rty Ex RR σ0 QQ X pc L (vD a :: S) :=
  fun p e s m args below meth c H locs ls C hB hP hl => lv_dneg C.1.1 C.1.2.1 hd (h p e s m args below meth c H locs ls C hB hP hl)
theorem r_dadd {a b : UInt64} (hd : decode cc pc = .ok (.dadd, 1)) (hne : vf_n64 (FP.dadd a b)) (h : Wm G l y cc nL rty Ex RR σ0 QQ X (pc + 1) L (vD (FP.dadd a b) :: S)) : Wm G l y cc nL rty Ex RR σ0 QQ X pc L (vD b :: vD a :: S) :=
  fun p e s m args below meth c H locs ls C hB hP hl => lv_dadd C.1.1 C.1.2.1 hd hne (h p e s m args below meth c H locs ls C hB hP hl)
theorem r_dsub {a b : UInt64} (hd : decode cc pc = .ok (.dsub, 1)) (hne : vf_n64 (FP.dsub a b)) (h : Wm G l y cc nL rty Ex RR σ0 QQ X (pc + 1) L (vD (FP.dsub a b) :: S)) : Wm G l y cc nL rty Ex RR σ0 QQ X pc L (vD b :: vD a :: S) :=
  fun p e s m args below meth c H locs ls C hB hP hl => lv_dsub C.1.1 C.1.2.1 hd hne (h p e s m args below meth c H locs ls C hB hP hl)
theorem r_dmul {a b : UInt64} (hd : decode cc pc = .ok (.dmul, 1)) (hne : vf_n64 (FP.dmul a b)) (h : Wm G l y cc nL rty Ex RR σ0 QQ X (pc + 1) L (vD (FP.dmul a b) :: S)) : Wm G l y cc nL rty Ex RR σ0 QQ X pc L (vD b :: vD a :: S) :=
  fun p e s m args below meth c H locs ls C hB hP hl => lv_dmul C.1.1 C.1.2.1 hd hne (h p e s m args below meth c H locs ls C hB hP hl)
theorem r_ddiv {a b : UInt64} (hd : decode cc pc = .ok (.ddiv, 1)) (hne : vf_n64 (FP.ddiv a b)) (h : Wm G l y cc nL rty Ex RR σ0 QQ X (pc + 1) L (vD (FP.ddiv a b) :: S)) : Wm G l y cc nL rty Ex RR σ0 QQ X pc L (vD b :: vD a :: S) :=
  fun p e s m args below meth c H locs ls C hB hP hl => lv_ddiv C.1.1 C.1.2.1 hd hne (h p e s m args below meth c H locs ls C hB hP hl)
theorem r_dcmp {a b : UInt64} {op : CmpOp} (hd : decode cc pc = .ok (.dcmp op, 1)) (h : Wm G l y cc nL rty Ex RR σ0 QQ X (pc + 1) L (vI (Op.cmpValue (FP.dcmp a b) op) :: S)) : Wm G l y cc nL rty Ex RR σ0 QQ X pc L (vD b :: vD a :: S) :=
  fun p e s m args below meth c H locs ls C hB hP hl => lv_dcmp C.1.1 C.1.2.1 hd (h p e s m args below meth c H locs ls C hB hP hl)
theorem r_lcmp {a b : Int64} (hd : decode cc pc = .ok (.lcmp, 1)) (h : Wm G l y cc nL rty Ex RR σ0 QQ X (pc + 1) L (vI (lg_cmp a b) :: S)) : Wm G l y cc nL rty Ex RR σ0 QQ X pc L (vL b :: vL a :: S) :=
  fun p e s m args below meth c H locs ls C hB hP hl => W.lcmp C.1.1 C.1.2.1 hd (h p e s m args below meth c H locs ls C hB hP hl)
theorem r_iconst {n : Int} {v : Int32} (hd : decode cc pc = .ok (.iconst n, 1)) (hv : Int32.ofInt n = v) (h : Wm G l y cc nL rty Ex RR σ0 QQ X (pc + 1) L (vI v :: S)) : Wm G l y cc nL rty Ex RR σ0 QQ X pc L (S) :=
  fun p e s m args below meth c H locs ls C hB hP hl => lv_iconst C.1.1 C.1.2.1 hd hv (h p e s m args below meth c H locs ls C hB hP hl)
theorem r_bipush {n : Int} {v : Int32} (hd : decode cc pc = .ok (.bipush n, 2)) (hv : (Int8.ofInt n).toInt32 = v) (h : Wm G l y cc nL rty Ex RR σ0 QQ X (pc + 2) L (vI v :: S)) : Wm G l y cc nL rty Ex RR σ0 QQ X pc L (S) :=
  fun p e s m args below meth c H locs ls C hB hP hl => lv_bipush C.1.1 C.1.2.1 hd hv (h p e s m args below meth c H locs ls C hB hP hl)
theorem r_sipush {n : Int} {v : Int32} (hd : decode cc pc = .ok (.sipush n, 3)) (hv : (Int16.ofInt n).toInt32 = v) (h : Wm G l y cc nL rty Ex RR σ0 QQ X (pc + 3) L (vI v :: S)) : Wm G l y cc nL rty Ex RR σ0 QQ X pc L (S) :=
  fun p e s m args below meth c H locs ls C hB hP hl => lv_sipush C.1.1 C.1.2.1 hd hv (h p e s m args below meth c H locs ls C hB hP hl)
theorem r_lconst {n : Fin 2} {v : Int64} (hd : decode cc pc = .ok (.lconst n, 1)) (hv : Int64.ofNat (n : Nat) = v) (h : Wm G l y cc nL rty Ex RR σ0 QQ X (pc + 1) L (vL v :: S)) : Wm G l y cc nL rty Ex RR σ0 QQ X pc L (S) :=
  fun p e s m args below meth c H locs ls C hB hP hl => lv_lconst C.1.1 C.1.2.1 hd hv (h p e s m args below meth c H locs ls C hB hP hl)
theorem r_dconst0  (hd : decode cc pc = .ok (.dconst 0, 1)) (h : Wm G l y cc nL rty Ex RR σ0 QQ X (pc + 1) L (vD FP.dconst0 :: S)) : Wm G l y cc nL rty Ex RR σ0 QQ X pc L (S) :=
  fun p e s m args below meth c H locs ls C hB hP hl => lv_dconst0 C.1.1 C.1.2.1 hd (h p e s m args below meth c H locs ls C hB hP hl)
theorem r_dconst1  (hd : decode cc pc = .ok (.dconst 1, 1)) (h : Wm G l y cc nL rty Ex RR σ0 QQ X (pc + 1) L (vD FP.dconst1 :: S)) : Wm G l y cc nL rty Ex RR σ0 QQ X pc L (S) :=
  fun p e s m args below meth c H locs ls C hB hP hl => lv_dconst1 C.1.1 C.1.2.1 hd (h p e s m args below meth c H locs ls C hB hP hl)
theorem r_null  (hd : decode cc pc = .ok (.aconst_null, 1)) (h : Wm G l y cc nL rty Ex RR σ0 QQ X (pc + 1) L (vR none :: S)) : Wm G l y cc nL rty Ex RR σ0 QQ X pc L (S) :=
  fun p e s m args below meth c H locs ls C hB hP hl => lv_null C.1.1 C.1.2.1 hd (h p e s m args below meth c H locs ls C hB hP hl)
theorem r_ldc {i : Nat} {v : Int32} (hd : decode cc pc = .ok (.ldc i, 2)) (hk : Jvm.Cond.constant y.cls i v ∈ tGd) (h : Wm G l y cc nL rty Ex RR σ0 QQ X (pc + 2) L (vI v :: S)) : Wm G l y cc nL rty Ex RR σ0 QQ X pc L (S) :=
  fun p e s m args below meth c H locs ls C hB hP hl => lv_ldc C.1.1 C.1.2.1 C.1.2.2.2.1 (C.1.2.2.2.2 _ hk) hd (h p e s m args below meth c H locs ls C hB hP hl)
theorem r_ldcw {i : Nat} {v : Int32} (hd : decode cc pc = .ok (.ldc_w i, 3)) (hk : Jvm.Cond.constant y.cls i v ∈ tGd) (h : Wm G l y cc nL rty Ex RR σ0 QQ X (pc + 3) L (vI v :: S)) : Wm G l y cc nL rty Ex RR σ0 QQ X pc L (S) :=
  fun p e s m args below meth c H locs ls C hB hP hl => lv_ldcw C.1.1 C.1.2.1 C.1.2.2.2.1 (C.1.2.2.2.2 _ hk) hd (h p e s m args below meth c H locs ls C hB hP hl)
theorem r_ldc2 {i : Nat} {v : Int64} (hd : decode cc pc = .ok (.ldc2_w i, 3)) (hk : Jvm.Cond.constantLong y.cls i v ∈ tGd) (h : Wm G l y cc nL rty Ex RR σ0 QQ X (pc + 3) L (vL v :: S)) : Wm G l y cc nL rty Ex RR σ0 QQ X pc L (S) :=
  fun p e s m args below meth c H locs ls C hB hP hl => lv_ldc2 C.1.1 C.1.2.1 C.1.2.2.2.1 (C.1.2.2.2.2 _ hk) hd (h p e s m args below meth c H locs ls C hB hP hl)
theorem r_ldc2d {i : Nat} {v : UInt64} (hd : decode cc pc = .ok (.ldc2_w i, 3)) (hk : Jvm.Cond.constantDouble y.cls i v ∈ tGd) (h : Wm G l y cc nL rty Ex RR σ0 QQ X (pc + 3) L (vD v :: S)) : Wm G l y cc nL rty Ex RR σ0 QQ X pc L (S) :=
  fun p e s m args below meth c H locs ls C hB hP hl => lv_ldc2d C.1.1 C.1.2.1 C.1.2.2.2.1 (C.1.2.2.2.2 _ hk) hd (h p e s m args below meth c H locs ls C hB hP hl)
theorem r_dup {v : SV} (hd : decode cc pc = .ok (.dup, 1)) (hc : ctx v = 1) (h : Wm G l y cc nL rty Ex RR σ0 QQ X (pc + 1) L (v :: v :: S)) : Wm G l y cc nL rty Ex RR σ0 QQ X pc L (v :: S) :=
  fun p e s m args below meth c H locs ls C hB hP hl => lv_dup C.1.1 C.1.2.1 hd (by rw [ctx_cat]; exact hc) (h p e s m args below meth c H locs ls C hB hP hl)
theorem r_pop {v : SV} (hd : decode cc pc = .ok (.pop, 1)) (hc : ctx v = 1) (h : Wm G l y cc nL rty Ex RR σ0 QQ X (pc + 1) L (S)) : Wm G l y cc nL rty Ex RR σ0 QQ X pc L (v :: S) :=
  fun p e s m args below meth c H locs ls C hB hP hl => lv_pop C.1.1 C.1.2.1 hd (by rw [ctx_cat]; exact hc) (h p e s m args below meth c H locs ls C hB hP hl)
theorem r_dup2 {v u : SV} (hd : decode cc pc = .ok (.dup2, 1)) (hc : ctx v = 1) (hc2 : ctx u = 1) (h : Wm G l y cc nL rty Ex RR σ0 QQ X (pc + 1) L (v :: u :: v :: u :: S)) : Wm G l y cc nL rty Ex RR σ0 QQ X pc L (v :: u :: S) :=
  fun p e s m args below meth c H locs ls C hB hP hl => lv_dup2_11 C.1.1 C.1.2.1 hd (by rw [ctx_cat]; exact hc) (by rw [ctx_cat]; exact hc2) (h p e s m args below meth c H locs ls C hB hP hl)
theorem r_dup2w {v : SV} (hd : decode cc pc = .ok (.dup2, 1)) (hc : ctx v = 2) (h : Wm G l y cc nL rty Ex RR σ0 QQ X (pc + 1) L (v :: v :: S)) : Wm G l y cc nL rty Ex RR σ0 QQ X pc L (v :: S) :=
  fun p e s m args below meth c H locs ls C hB hP hl => lv_dup2_2 C.1.1 C.1.2.1 hd (by rw [ctx_cat]; exact hc) (h p e s m args below meth c H locs ls C hB hP hl)
theorem r_iload {i : Nat} {v : Int32} (hd : decode cc pc = .ok (.iload i, 2)) (k : Nat) (hk : L[k]? = some (i, vI v)) (h : Wm G l y cc nL rty Ex RR σ0 QQ X (pc + 2) L (vI v :: S)) : Wm G l y cc nL rty Ex RR σ0 QQ X pc L (S) :=
  fun p e s m args below meth c H locs ls C hB hP hl => lv_iload C.1.1 C.1.2.1 hd (lvx hl hk) (h p e s m args below meth c H locs ls C hB hP hl)
theorem r_iload_n {n : Fin 4} {i : Nat} {v : Int32} (hd : decode cc pc = .ok (.iload_n n, 1)) (hi : (n : Nat) = i) (k : Nat) (hk : L[k]? = some (i, vI v)) (h : Wm G l y cc nL rty Ex RR σ0 QQ X (pc + 1) L (vI v :: S)) : Wm G l y cc nL rty Ex RR σ0 QQ X pc L S :=
  fun p e s m args below meth c H locs ls C hB hP hl => lv_iload_n C.1.1 C.1.2.1 hd hi (lvx hl hk) (h p e s m args below meth c H locs ls C hB hP hl)
theorem r_lload {i : Nat} {v : Int64} (hd : decode cc pc = .ok (.lload i, 2)) (k : Nat) (hk : L[k]? = some (i, vL v)) (h : Wm G l y cc nL rty Ex RR σ0 QQ X (pc + 2) L (vL v :: S)) : Wm G l y cc nL rty Ex RR σ0 QQ X pc L (S) :=
  fun p e s m args below meth c H locs ls C hB hP hl => lv_lload C.1.1 C.1.2.1 hd (lvx hl hk) (h p e s m args below meth c H locs ls C hB hP hl)
theorem r_lload_n {n : Fin 4} {i : Nat} {v : Int64} (hd : decode cc pc = .ok (.lload_n n, 1)) (hi : (n : Nat) = i) (k : Nat) (hk : L[k]? = some (i, vL v)) (h : Wm G l y cc nL rty Ex RR σ0 QQ X (pc + 1) L (vL v :: S)) : Wm G l y cc nL rty Ex RR σ0 QQ X pc L S :=
  fun p e s m args below meth c H locs ls C hB hP hl => lv_lload_n C.1.1 C.1.2.1 hd hi (lvx hl hk) (h p e s m args below meth c H locs ls C hB hP hl)
theorem r_dload {i : Nat} {v : UInt64} (hd : decode cc pc = .ok (.dload i, 2)) (k : Nat) (hk : L[k]? = some (i, vD v)) (h : Wm G l y cc nL rty Ex RR σ0 QQ X (pc + 2) L (vD v :: S)) : Wm G l y cc nL rty Ex RR σ0 QQ X pc L (S) :=
  fun p e s m args below meth c H locs ls C hB hP hl => lv_dload C.1.1 C.1.2.1 hd (lvx hl hk) (h p e s m args below meth c H locs ls C hB hP hl)
theorem r_dload_n {n : Fin 4} {i : Nat} {v : UInt64} (hd : decode cc pc = .ok (.dload_n n, 1)) (hi : (n : Nat) = i) (k : Nat) (hk : L[k]? = some (i, vD v)) (h : Wm G l y cc nL rty Ex RR σ0 QQ X (pc + 1) L (vD v :: S)) : Wm G l y cc nL rty Ex RR σ0 QQ X pc L S :=
  fun p e s m args below meth c H locs ls C hB hP hl => lv_dload_n C.1.1 C.1.2.1 hd hi (lvx hl hk) (h p e s m args below meth c H locs ls C hB hP hl)
theorem r_istore {i : Nat} {v : Int32} {L' : List (Nat × SV)} (hd : decode cc pc = .ok (.istore i, 2)) (hn : i < nL) (hL : ls1 i (vI v) L = L') (h : Wm G l y cc nL rty Ex RR σ0 QQ X (pc + 2) L' S) : Wm G l y cc nL rty Ex RR σ0 QQ X pc L (vI v :: S) :=
  fun p e s m args below meth c H locs ls C hB hP hl => lv_istore C.1.1 C.1.2.1 hd hl hn (ls1_cv G i (vI v) L) (fun ls' hl' => h p e s m args below meth c H locs ls' C hB hP (by rw [← hL]; exact hl'))
theorem r_istore_n {n : Fin 4} {i : Nat} {v : Int32} {L' : List (Nat × SV)} (hd : decode cc pc = .ok (.istore_n n, 1)) (hi : (n : Nat) = i) (hn : i < nL) (hL : ls1 i (vI v) L = L') (h : Wm G l y cc nL rty Ex RR σ0 QQ X (pc + 1) L' S) : Wm G l y cc nL rty Ex RR σ0 QQ X pc L (vI v :: S) :=
  fun p e s m args below meth c H locs ls C hB hP hl => lv_istore_n C.1.1 C.1.2.1 hd hi hl hn (ls1_cv G i (vI v) L) (fun ls' hl' => h p e s m args below meth c H locs ls' C hB hP (by rw [← hL]; exact hl'))
theorem r_lstore {i : Nat} {v : Int64} {L' : List (Nat × SV)} (hd : decode cc pc = .ok (.lstore i, 2)) (hn : i + 1 < nL) (hL : ls2 i (vL v) L = L') (h : Wm G l y cc nL rty Ex RR σ0 QQ X (pc + 2) L' S) : Wm G l y cc nL rty Ex RR σ0 QQ X pc L (vL v :: S) :=
  fun p e s m args below meth c H locs ls C hB hP hl => lv_lstore C.1.1 C.1.2.1 hd hl hn (ls2_cv G i (vL v) L) (fun ls' hl' => h p e s m args below meth c H locs ls' C hB hP (by rw [← hL]; exact hl'))
theorem r_lstore_n {n : Fin 4} {i : Nat} {v : Int64} {L' : List (Nat × SV)} (hd : decode cc pc = .ok (.lstore_n n, 1)) (hi : (n : Nat) = i) (hn : i + 1 < nL) (hL : ls2 i (vL v) L = L') (h : Wm G l y cc nL rty Ex RR σ0 QQ X (pc + 1) L' S) : Wm G l y cc nL rty Ex RR σ0 QQ X pc L (vL v :: S) :=
  fun p e s m args below meth c H locs ls C hB hP hl => lv_lstore_n C.1.1 C.1.2.1 hd hi hl hn (ls2_cv G i (vL v) L) (fun ls' hl' => h p e s m args below meth c H locs ls' C hB hP (by rw [← hL]; exact hl'))
theorem r_dstore {i : Nat} {v : UInt64} {L' : List (Nat × SV)} (hd : decode cc pc = .ok (.dstore i, 2)) (hn : i + 1 < nL) (hL : ls2 i (vD v) L = L') (h : Wm G l y cc nL rty Ex RR σ0 QQ X (pc + 2) L' S) : Wm G l y cc nL rty Ex RR σ0 QQ X pc L (vD v :: S) :=
  fun p e s m args below meth c H locs ls C hB hP hl => lv_dstore C.1.1 C.1.2.1 hd hl hn (ls2_cv G i (vD v) L) (fun ls' hl' => h p e s m args below meth c H locs ls' C hB hP (by rw [← hL]; exact hl'))
theorem r_dstore_n {n : Fin 4} {i : Nat} {v : UInt64} {L' : List (Nat × SV)} (hd : decode cc pc = .ok (.dstore_n n, 1)) (hi : (n : Nat) = i) (hn : i + 1 < nL) (hL : ls2 i (vD v) L = L') (h : Wm G l y cc nL rty Ex RR σ0 QQ X (pc + 1) L' S) : Wm G l y cc nL rty Ex RR σ0 QQ X pc L (vD v :: S) :=
  fun p e s m args below meth c H locs ls C hB hP hl => lv_dstore_n C.1.1 C.1.2.1 hd hi hl hn (ls2_cv G i (vD v) L) (fun ls' hl' => h p e s m args below meth c H locs ls' C hB hP (by rw [← hL]; exact hl'))
theorem r_aload {i : Nat} {v : Option Nat} (hd : decode cc pc = .ok (.aload i, 2)) (k : Nat) (hk : L[k]? = some (i, vR v)) (h : Wm G l y cc nL rty Ex RR σ0 QQ X (pc + 2) L (vR v :: S)) : Wm G l y cc nL rty Ex RR σ0 QQ X pc L S := by
  intro p e s m args below meth c H locs ls C hB hP hl
  have h1 := h p e s m args below meth c H locs ls C hB hP hl
  have h2 := lvx hl hk
  cases v with
  | none => exact lv_aloadN C.1.1 C.1.2.1 hd h2 h1
  | some x => exact lv_aload C.1.1 C.1.2.1 hd h2 h1
theorem r_aload_n {n : Fin 4} {i : Nat} {v : Option Nat} (hd : decode cc pc = .ok (.aload_n n, 1)) (hi : (n : Nat) = i) (k : Nat) (hk : L[k]? = some (i, vR v)) (h : Wm G l y cc nL rty Ex RR σ0 QQ X (pc + 1) L (vR v :: S)) : Wm G l y cc nL rty Ex RR σ0 QQ X pc L S := by
  intro p e s m args below meth c H locs ls C hB hP hl
  have h1 := h p e s m args below meth c H locs ls C hB hP hl
  have h2 := lvx hl hk
  cases v with
  | none => exact lv_aload_nN C.1.1 C.1.2.1 hd hi h2 h1
  | some x => exact lv_aload_n C.1.1 C.1.2.1 hd hi h2 h1
theorem r_astore {i : Nat} {v : Option Nat} {L' : List (Nat × SV)} (hd : decode cc pc = .ok (.astore i, 2)) (hn : i < nL) (hL : ls1 i (vR v) L = L') (h : Wm G l y cc nL rty Ex RR σ0 QQ X (pc + 2) L' S) : Wm G l y cc nL rty Ex RR σ0 QQ X pc L (vR v :: S) := by
  intro p e s m args below meth c H locs ls C hB hP hl
  cases v with
  | none => exact lv_astoreN C.1.1 C.1.2.1 hd hl hn (ls1_cv G i (vR none) L) (fun ls' hl' => h p e s m args below meth c H locs ls' C hB hP (by rw [← hL]; exact hl'))
  | some x => exact lv_astore C.1.1 C.1.2.1 hd hl hn (ls1_cv G i (vR (some x)) L) (fun ls' hl' => h p e s m args below meth c H locs ls' C hB hP (by rw [← hL]; exact hl'))
theorem r_astore_n {n : Fin 4} {i : Nat} {v : Option Nat} {L' : List (Nat × SV)} (hd : decode cc pc = .ok (.astore_n n, 1)) (hi : (n : Nat) = i) (hn : i < nL) (hL : ls1 i (vR v) L = L') (h : Wm G l y cc nL rty Ex RR σ0 QQ X (pc + 1) L' S) : Wm G l y cc nL rty Ex RR σ0 QQ X pc L (vR v :: S) := by
  intro p e s m args below meth c H locs ls C hB hP hl
  cases v with
  | none => exact lv_astore_nN C.1.1 C.1.2.1 hd hi hl hn (ls1_cv G i (vR none) L) (fun ls' hl' => h p e s m args below meth c H locs ls' C hB hP (by rw [← hL]; exact hl'))
  | some x => exact lv_astore_n C.1.1 C.1.2.1 hd hi hl hn (ls1_cv G i (vR (some x)) L) (fun ls' hl' => h p e s m args below meth c H locs ls' C hB hP (by rw [← hL]; exact hl'))
theorem r_iinc {i : Nat} {n : Int} {x v : Int32} {L' : List (Nat × SV)} (hd : decode cc pc = .ok (.iinc i n, 3)) (k : Nat) (hk : L[k]? = some (i, vI x)) (hv : x + Int32.ofInt n = v) (hn : i < nL) (hL : ls1 i (vI v) L = L') (h : Wm G l y cc nL rty Ex RR σ0 QQ X (pc + 3) L' S) : Wm G l y cc nL rty Ex RR σ0 QQ X pc L S :=
  fun p e s m args below meth c H locs ls C hB hP hl => lv_iinc C.1.1 C.1.2.1 hd hl (k := k) (lvk hk) hv hn (ls1_cv G i (vI v) L) (fun ls' hl' => h p e s m args below meth c H locs ls' C hB hP (by rw [← hL]; exact hl'))
theorem r_iincw {i : Nat} {n : Int} {x v : Int32} {L' : List (Nat × SV)} (hd : decode cc pc = .ok (.iinc i n, 6)) (k : Nat) (hk : L[k]? = some (i, vI x)) (hv : x + Int32.ofInt n = v) (hn : i < nL) (hL : ls1 i (vI v) L = L') (h : Wm G l y cc nL rty Ex RR σ0 QQ X (pc + 6) L' S) : Wm G l y cc nL rty Ex RR σ0 QQ X pc L S :=
  fun p e s m args below meth c H locs ls C hB hP hl => lv_iincW C.1.1 C.1.2.1 hd hl (k := k) (lvk hk) hv hn (ls1_cv G i (vI v) L) (fun ls' hl' => h p e s m args below meth c H locs ls' C hB hP (by rw [← hL]; exact hl'))
theorem r_goto {off : Int} {tgt : Nat} (hd : decode cc pc = .ok (.goto off, 3)) (ht : (pc : Int) + off = (tgt : Int)) (h : Wm G l y cc nL rty Ex RR σ0 QQ X tgt L S) : Wm G l y cc nL rty Ex RR σ0 QQ X pc L S :=
  fun p e s m args below meth c H locs ls C hB hP hl => lv_goto C.1.1 C.1.2.1 hd ht (h p e s m args below meth c H locs ls C hB hP hl)
theorem r_sub {L' : List (Nat × SV)} (ks : List Nat) (hs : ks.filterMap (fun k => L[k]?) = L') (h : Wm G l y cc nL rty Ex RR σ0 QQ X pc L' S) : Wm G l y cc nL rty Ex RR σ0 QQ X pc L S :=
  fun p e s m args below meth c H locs ls C hB hP hl => h p e s m args below meth c H locs ls C hB hP (lv_sub hl ks (by
    subst hs
    unfold lv_pick cvL
    rw [List.map_filterMap]
    congr 1
    funext k
    rw [List.getElem?_map]))
theorem r_if_eq {a : Int32} {off : Int} {tgt : Nat} (hd : decode cc pc = .ok (.ifCond .eq off, 3)) (ht : (pc : Int) + off = (tgt : Int)) (kt : a = 0 → Wm G l y cc nL rty Ex RR σ0 QQ X tgt L S) (kf : ¬ (a = 0) → Wm G l y cc nL rty Ex RR σ0 QQ X (pc + 3) L S) : Wm G l y cc nL rty Ex RR σ0 QQ X pc L (vI a :: S) :=
  fun p e s m args below meth c H locs ls C hB hP hl => lv_if_eq C.1.1 C.1.2.1 hd ht (fun q => kt q p e s m args below meth c H locs ls C hB hP hl) (fun q => kf q p e s m args below meth c H locs ls C hB hP hl)
theorem r_icmp_eq {a b : Int32} {off : Int} {tgt : Nat} (hd : decode cc pc = .ok (.if_icmp .eq off, 3)) (ht : (pc : Int) + off = (tgt : Int)) (kt : a = b → Wm G l y cc nL rty Ex RR σ0 QQ X tgt L S) (kf : ¬ (a = b) → Wm G l y cc nL rty Ex RR σ0 QQ X (pc + 3) L S) : Wm G l y cc nL rty Ex RR σ0 QQ X pc L (vI b :: vI a :: S) :=
  fun p e s m args below meth c H locs ls C hB hP hl => lv_icmp_eq C.1.1 C.1.2.1 hd ht (fun q => kt q p e s m args below meth c H locs ls C hB hP hl) (fun q => kf q p e s m args below meth c H locs ls C hB hP hl)
theorem r_if_lt {a : Int32} {off : Int} {tgt : Nat} (hd : decode cc pc = .ok (.ifCond .lt off, 3)) (ht : (pc : Int) + off = (tgt : Int)) (kt : a < 0 → Wm G l y cc nL rty Ex RR σ0 QQ X tgt L S) (kf : ¬ (a < 0) → Wm G l y cc nL rty Ex RR σ0 QQ X (pc + 3) L S) : Wm G l y cc nL rty Ex RR σ0 QQ X pc L (vI a :: S) :=
  fun p e s m args below meth c H locs ls C hB hP hl => lv_if_lt C.1.1 C.1.2.1 hd ht (fun q => kt q p e s m args below meth c H locs ls C hB hP hl) (fun q => kf q p e s m args below meth c H locs ls C hB hP hl)
theorem r_icmp_lt {a b : Int32} {off : Int} {tgt : Nat} (hd : decode cc pc = .ok (.if_icmp .lt off, 3)) (ht : (pc : Int) + off = (tgt : Int)) (kt : a < b → Wm G l y cc nL rty Ex RR σ0 QQ X tgt L S) (kf : ¬ (a < b) → Wm G l y cc nL rty Ex RR σ0 QQ X (pc + 3) L S) : Wm G l y cc nL rty Ex RR σ0 QQ X pc L (vI b :: vI a :: S) :=
  fun p e s m args below meth c H locs ls C hB hP hl => lv_icmp_lt C.1.1 C.1.2.1 hd ht (fun q => kt q p e s m args below meth c H locs ls C hB hP hl) (fun q => kf q p e s m args below meth c H locs ls C hB hP hl)
theorem r_if_le {a : Int32} {off : Int} {tgt : Nat} (hd : decode cc pc = .ok (.ifCond .le off, 3)) (ht : (pc : Int) + off = (tgt : Int)) (kt : a ≤ 0 → Wm G l y cc nL rty Ex RR σ0 QQ X tgt L S) (kf : ¬ (a ≤ 0) → Wm G l y cc nL rty Ex RR σ0 QQ X (pc + 3) L S) : Wm G l y cc nL rty Ex RR σ0 QQ X pc L (vI a :: S) :=
  fun p e s m args below meth c H locs ls C hB hP hl => lv_if_le C.1.1 C.1.2.1 hd ht (fun q => kt q p e s m args below meth c H locs ls C hB hP hl) (fun q => kf q p e s m args below meth c H locs ls C hB hP hl)
theorem r_icmp_le {a b : Int32} {off : Int} {tgt : Nat} (hd : decode cc pc = .ok (.if_icmp .le off, 3)) (ht : (pc : Int) + off = (tgt : Int)) (kt : a ≤ b → Wm G l y cc nL rty Ex RR σ0 QQ X tgt L S) (kf : ¬ (a ≤ b) → Wm G l y cc nL rty Ex RR σ0 QQ X (pc + 3) L S) : Wm G l y cc nL rty Ex RR σ0 QQ X pc L (vI b :: vI a :: S) :=
  fun p e s m args below meth c H locs ls C hB hP hl => lv_icmp_le C.1.1 C.1.2.1 hd ht (fun q => kt q p e s m args below meth c H locs ls C hB hP hl) (fun q => kf q p e s m args below meth c H locs ls C hB hP hl)
end RWS
/-! ===== rows over the heap ===== -/
theorem adx_ge {G : Gx} {a : Nat} (h : 4 ≤ a) : adx G a = G.2.2.1 + (a - 4) := by
  obtain ⟨k, rfl⟩ : ∃ k, a = k + 4 := ⟨a - 4, by omega⟩
  rfl
theorem adx_inj {G : Gx} {a b : Nat} (ha : 4 ≤ a) (hb : 4 ≤ b) (h : adx G a = adx G b) : a = b := by
  rw [adx_ge ha, adx_ge hb] at h
  omega
theorem fvx_congr {G : Gx} {X X' : Stt} {a : Nat} (h1 : X'.2.1 a = X.2.1 a) (h2 : X'.2.2.1 a = X.2.2.1 a) (h3 : X'.2.2.2.1 a = X.2.2.2.1 a) (h4 : X'.2.2.2.2 a = X.2.2.2.2 a) (ty : FieldType) (k : Nat) : fvx G X' ty a k = fvx G X ty a k := by
  unfold fvx
  rw [h1, h2, h3, h4]
theorem cEx_congr {G : Gx} {X X' : Stt} {a : Nat} (h0 : kdx X'.1 a = kdx X.1 a) (h0' : lnx X'.1 a = lnx X.1 a) (h1 : X'.2.1 a = X.2.1 a) (h2 : X'.2.2.1 a = X.2.2.1 a) (h3 : X'.2.2.2.1 a = X.2.2.2.1 a) (h4 : X'.2.2.2.2 a = X.2.2.2.2 a) : cEx G X' a = cEx G X a := by
  unfold cEx
  rw [h0, h0', h1, h2, h3, h4]
  have e : (fun k => fvx G X' (fty (kdx X.1 a - 1) k) a k) = (fun k => fvx G X (fty (kdx X.1 a - 1) k) a k) := funext fun k => fvx_congr h1 h2 h3 h4 _ k
  rw [e]
abbrev Offx (X X' : Stt) (b : Nat) : Prop := X'.2.1 b = X.2.1 b ∧ X'.2.2.1 b = X.2.2.1 b ∧ X'.2.2.2.1 b = X.2.2.2.1 b ∧ X'.2.2.2.2 b = X.2.2.2.2 b
theorem Hx_put {G : Gx} {X X' : Stt} {H H1 : Heap} (h : Hx G X H) {a : Nat} (ha : kdx X.1 a ≠ 0) (ha0 : a ≠ 0) (hσ : X'.1 = X.1) (z : H1.size = H.size) (oq : ∀ q : Nat, q ≠ adx G a → H1[q]? = H[q]?) (hat : va_at G.1 vwCl (adx G a, cEx G X' a) H1) (hoff : ∀ b, b ≠ a → Offx X X' b) : Hx G X' H1 := by
  obtain ⟨h1, h2, h3, h4, h5⟩ := h
  have ha3 := h1 a ha ha0
  refine ⟨fun b hb hb0 => ?_, by rw [z, hσ]; exact h2, by rw [hσ]; exact h3, by rw [hσ]; exact h4, fun b hb => ?_⟩
  · rw [hσ] at hb ⊢
    obtain ⟨q1, q2, q3⟩ := h1 b hb hb0
    refine ⟨q1, q2, ?_⟩
    by_cases e : b = a
    · subst e
      exact hat
    · obtain ⟨o1, o2, o3, o4⟩ := hoff b e
      rw [cEx_congr (by rw [hσ]) (by rw [hσ]) o1 o2 o3 o4]
      exact q3.kept (oq _ (fun q => e (adx_inj q1 ha3.1 q)))
  · rw [hσ] at hb ⊢
    obtain ⟨q1, q2⟩ := h5 b hb
    obtain ⟨o1, o2, o3, o4⟩ := hoff b (by omega)
    refine ⟨q1, fun k => ?_⟩
    rw [o1, o2, o3, o4]
    exact q2 k
theorem Hpx_put {G : Gx} {s : State} {X X' : Stt} {H H1 : Heap} {locs : List Loc} (h : Hpx G s X H locs) {a : Nat} {j : Nat} (ha : kdx X.1 a ≠ 0) (ha0 : a ≠ 0) (hσ : X'.1 = X.1) (z : H1.size = H.size) (oq : ∀ q : Nat, q ≠ adx G a → H1[q]? = H[q]?) (hat : va_at G.1 vwCl (adx G a, cEx G X' a) H1) (hoff : ∀ b, b ≠ a → Offx X X' b) : Hpx G s X' H1 (locs ++ [⟨adx G a, j⟩]) :=
  ⟨Hx_put h.1 ha ha0 hσ z oq hat hoff, h.2.put z oq (by
    have := (h.1.1 a ha ha0).1
    show G.2.2.1 ≤ adx G a
    rw [adx_ge this]
    omega)⟩
theorem P_one {D : va_G} {cl : List vw_C} {q : Nat × va_E} {H : Heap} (h : va_at D cl q H) : va_P D cl [q] H := by
  intro k x hk
  have h0 : k < 1 := (List.getElem?_eq_some_iff.mp hk).1
  rw [show k = 0 by omega] at hk
  cases hk
  exact h
theorem kd_not0 {G : Gx} {X : Stt} {H : Heap} (h : Hx G X H) {a t : Nat} (hk : kdx X.1 a = t) (ht : t ≠ 21) : a ≠ 0 := by
  intro e
  subst e
  exact ht (hk.symm.trans h.2.2.1)
theorem cEx_int {G : Gx} {X : Stt} {a t : Nat} (hk : kdx X.1 a = t) (ht : t = 20 ∨ t = 22 ∨ t = 23 ∨ t = 24) : cEx G X a = .inl (G.2.1 t, lnx X.1 a, .inl (X.2.1 a)) := by
  unfold cEx
  rw [hk]
  rcases ht with rfl | rfl | rfl | rfl <;> rfl
theorem cEx_long {G : Gx} {X : Stt} {a : Nat} (hk : kdx X.1 a = 21) : cEx G X a = .inl (G.2.1 21, lnx X.1 a, .inr (.inl (X.2.2.1 a))) := by
  unfold cEx
  rw [hk]
  rfl
theorem cEx_double {G : Gx} {X : Stt} {a : Nat} (hk : kdx X.1 a = 25) : cEx G X a = .inl (G.2.1 25, lnx X.1 a, .inr (.inr (.inr (.inl (X.2.2.2.1 a))))) := by
  unfold cEx
  rw [hk]
  rfl
theorem cEx_ref {G : Gx} {X : Stt} {a t : Nat} (hk : kdx X.1 a = t) (ht : 26 ≤ t) : cEx G X a = .inl (G.2.1 t, lnx X.1 a, .inr (.inr (.inr (.inr (fun j => (X.2.2.2.2 a j).map (adx G)))))) := by
  unfold cEx
  rw [hk, if_neg (by omega), if_neg (by omega), if_pos ht]
theorem cEx_obj {G : Gx} {X : Stt} {a c : Nat} (hk : kdx X.1 a = c + 1) (hc : c < 13) : cEx G X a = .inr (c, (List.range (nFs c)).map (fun k => fvx G X (fty c k) a k)) := by
  unfold cEx
  rw [hk, if_neg (by omega), if_neg (by omega), if_neg (by omega), if_neg (by omega)]
  rfl
section RWH
variable {G : Gx} {l : Launch} {y : MethodName} {cc : ByteArray} {nL : Nat} {rty : Option FieldType} {Ex : State → Prop} {RR : Room} {σ0 : Shp} {QQ : List Frame → Array Value → State → State → Prop} {X : Stt} {pc : Nat} {L : List (Nat × SV)} {S : List SV}
theorem r_iaload {a : Nat} {i : Int32} (hd : decode cc pc = .ok (.iaload, 1)) (hk : kdx X.1 a = 20) (hi : vp_in i (lnx X.1 a)) (h : Wm G l y cc nL rty Ex RR σ0 QQ X (pc + 1) L (vI (X.2.1 a i.toNatClampNeg) :: S)) : Wm G l y cc nL rty Ex RR σ0 QQ X pc L (vI i :: vR (some a) :: S) := by
  intro p e s m args below meth c H locs ls C hB hP hl
  have hat := (hP.1.1 a (by rw [hk]; decide) (kd_not0 hP.1 hk (by decide))).2.2
  rw [cEx_int hk (Or.inl rfl)] at hat
  exact va_iald C.1.1 C.1.2.1 C.2.2.2.2.1.1 (P_one hat) 0 0 rfl rfl hi hd (h p e s m args below meth c H locs ls C hB hP hl)
theorem r_baload {a : Nat} {i : Int32} (hd : decode cc pc = .ok (.baload, 1)) (hk : kdx X.1 a = 22) (hi : vp_in i (lnx X.1 a)) (h : Wm G l y cc nL rty Ex RR σ0 QQ X (pc + 1) L (vI (X.2.1 a i.toNatClampNeg) :: S)) : Wm G l y cc nL rty Ex RR σ0 QQ X pc L (vI i :: vR (some a) :: S) := by
  intro p e s m args below meth c H locs ls C hB hP hl
  have hat := (hP.1.1 a (by rw [hk]; decide) (kd_not0 hP.1 hk (by decide))).2.2
  rw [cEx_int hk (Or.inr (Or.inl rfl))] at hat
  exact va_bald C.1.1 C.1.2.1 C.2.2.2.2.1.1 (P_one hat) 0 2 rfl rfl hi hd (h p e s m args below meth c H locs ls C hB hP hl)
theorem r_zaload {a : Nat} {i : Int32} (hd : decode cc pc = .ok (.baload, 1)) (hk : kdx X.1 a = 24) (hi : vp_in i (lnx X.1 a)) (h : Wm G l y cc nL rty Ex RR σ0 QQ X (pc + 1) L (vI (X.2.1 a i.toNatClampNeg) :: S)) : Wm G l y cc nL rty Ex RR σ0 QQ X pc L (vI i :: vR (some a) :: S) := by
  intro p e s m args below meth c H locs ls C hB hP hl
  have hat := (hP.1.1 a (by rw [hk]; decide) (kd_not0 hP.1 hk (by decide))).2.2
  rw [cEx_int hk (Or.inr (Or.inr (Or.inr rfl)))] at hat
  exact va_zald C.1.1 C.1.2.1 C.2.2.2.2.1.1 (P_one hat) 0 4 rfl rfl hi hd (h p e s m args below meth c H locs ls C hB hP hl)
theorem r_saload {a : Nat} {i : Int32} (hd : decode cc pc = .ok (.saload, 1)) (hk : kdx X.1 a = 23) (hi : vp_in i (lnx X.1 a)) (h : Wm G l y cc nL rty Ex RR σ0 QQ X (pc + 1) L (vI (X.2.1 a i.toNatClampNeg) :: S)) : Wm G l y cc nL rty Ex RR σ0 QQ X pc L (vI i :: vR (some a) :: S) := by
  intro p e s m args below meth c H locs ls C hB hP hl
  have hat := (hP.1.1 a (by rw [hk]; decide) (kd_not0 hP.1 hk (by decide))).2.2
  rw [cEx_int hk (Or.inr (Or.inr (Or.inl rfl)))] at hat
  exact va_sald C.1.1 C.1.2.1 C.2.2.2.2.1.1 (P_one hat) 0 3 rfl rfl hi hd (h p e s m args below meth c H locs ls C hB hP hl)
theorem r_laload {a : Nat} {i : Int32} (hd : decode cc pc = .ok (.laload, 1)) (hk : kdx X.1 a = 21) (hi : vp_in i (lnx X.1 a)) (h : Wm G l y cc nL rty Ex RR σ0 QQ X (pc + 1) L (vL (X.2.2.1 a i.toNatClampNeg) :: S)) : Wm G l y cc nL rty Ex RR σ0 QQ X pc L (vI i :: vR (some a) :: S) := by
  intro p e s m args below meth c H locs ls C hB hP hl
  have ha0 : a ≠ 0 := by
    intro e
    subst e
    rw [hP.1.2.2.2.1] at hi
    exact hi (Or.inr (Nat.zero_le _))
  have hat := (hP.1.1 a (by rw [hk]; decide) ha0).2.2
  rw [cEx_long hk] at hat
  exact va_lald C.1.1 C.1.2.1 C.2.2.2.2.1.1 (P_one hat) 0 1 rfl rfl hi hd (h p e s m args below meth c H locs ls C hB hP hl)
theorem r_daload {a : Nat} {i : Int32} (hd : decode cc pc = .ok (.daload, 1)) (hk : kdx X.1 a = 25) (hi : vp_in i (lnx X.1 a)) (h : Wm G l y cc nL rty Ex RR σ0 QQ X (pc + 1) L (vD (X.2.2.2.1 a i.toNatClampNeg) :: S)) : Wm G l y cc nL rty Ex RR σ0 QQ X pc L (vI i :: vR (some a) :: S) := by
  intro p e s m args below meth c H locs ls C hB hP hl
  have hat := (hP.1.1 a (by rw [hk]; decide) (kd_not0 hP.1 hk (by decide))).2.2
  rw [cEx_double hk] at hat
  exact va_dald C.1.1 C.1.2.1 C.2.2.2.2.1.1 (P_one hat) 0 5 rfl rfl hi hd (h p e s m args below meth c H locs ls C hB hP hl)
theorem r_aaload {a t : Nat} {i : Int32} (hd : decode cc pc = .ok (.aaload, 1)) (hk : kdx X.1 a = t) (ht : t = 26 ∨ t = 27 ∨ t = 28 ∨ t = 29) (hi : vp_in i (lnx X.1 a)) (h : Wm G l y cc nL rty Ex RR σ0 QQ X (pc + 1) L (vR (X.2.2.2.2 a i.toNatClampNeg) :: S)) : Wm G l y cc nL rty Ex RR σ0 QQ X pc L (vI i :: vR (some a) :: S) := by
  intro p e s m args below meth c H locs ls C hB hP hl
  have hat := (hP.1.1 a (by rw [hk]; omega) (kd_not0 hP.1 hk (by omega))).2.2
  rw [cEx_ref hk (by omega)] at hat
  have hlt : i.toNatClampNeg < lnx X.1 a := Nat.not_le.mp fun q => hi (Or.inr q)
  have hK := C.2.2.2.2.1.1
  have key : ∀ (t0 : Nat) (ty : FieldType), (tysx G)[t0]? = some (G.2.1 t, ty) → ty.isReference = true → W p l e RR s m args below meth c H locs (nxx X.1 - nxx σ0) (slx X.1 - slx σ0) (QQ below args s) (F0 m pc ls ((vI i :: vR (some a) :: S).map (cvx G))) := fun t0 ty h0 hr =>
    W.aald (v := va_rf ((X.2.2.2.2 a i.toNatClampNeg).map (adx G))) (ty := ty) C.1.1 C.1.2.1 hat ((hK.2 t0 _ h0).1 (lnx X.1 a) (fun j => va_rf ((X.2.2.2.2 a j).map (adx G)))) hr (fun q => by cases q) (by show ¬ (i < 0 ∨ (arrV _ _ _).slots.size ≤ _); rw [arrV_size]; exact hi) (by show (arrV _ _ _).slots[_]? = _; rw [arrV_read _ _ hlt]) rfl rfl hd (h p e s m args below meth c H locs ls C hB hP hl)
  rcases ht with rfl | rfl | rfl | rfl
  · exact key 6 _ rfl rfl
  · exact key 7 _ rfl rfl
  · exact key 8 _ rfl rfl
  · exact key 9 _ rfl rfl
theorem r_alen {a t : Nat} (hd : decode cc pc = .ok (.arraylength, 1)) (hk : kdx X.1 a = t) (ht : 20 ≤ t ∧ t ≤ 29) (h : Wm G l y cc nL rty Ex RR σ0 QQ X (pc + 1) L (vI (Int32.ofNat (lnx X.1 a)) :: S)) : Wm G l y cc nL rty Ex RR σ0 QQ X pc L (vR (some a) :: S) := by
  intro p e s m args below meth c H locs ls C hB hP hl
  have h1 := h p e s m args below meth c H locs ls C hB hP hl
  by_cases ha0 : a = 0
  · subst ha0
    rw [hP.1.2.2.2.1] at h1
    exact va_tlen C.1.1 C.1.2.1 C.2.2.2.2.2.1.2.1 hP.2 rfl hd h1
  · have hat := (hP.1.1 a (by rw [hk]; omega) ha0).2.2
    have hK := C.2.2.2.2.1.1
    rcases (show t = 20 ∨ t = 21 ∨ t = 22 ∨ t = 23 ∨ t = 24 ∨ t = 25 ∨ t = 26 ∨ t = 27 ∨ t = 28 ∨ t = 29 by omega) with rfl | rfl | rfl | rfl | rfl | rfl | rfl | rfl | rfl | rfl
    · rw [cEx_int hk (by omega)] at hat; exact va_alen C.1.1 C.1.2.1 hK (P_one hat) 0 0 rfl rfl rfl hd h1
    · rw [cEx_long hk] at hat; exact va_alen C.1.1 C.1.2.1 hK (P_one hat) 0 1 rfl rfl rfl hd h1
    · rw [cEx_int hk (by omega)] at hat; exact va_alen C.1.1 C.1.2.1 hK (P_one hat) 0 2 rfl rfl rfl hd h1
    · rw [cEx_int hk (by omega)] at hat; exact va_alen C.1.1 C.1.2.1 hK (P_one hat) 0 3 rfl rfl rfl hd h1
    · rw [cEx_int hk (by omega)] at hat; exact va_alen C.1.1 C.1.2.1 hK (P_one hat) 0 4 rfl rfl rfl hd h1
    · rw [cEx_double hk] at hat; exact va_alen C.1.1 C.1.2.1 hK (P_one hat) 0 5 rfl rfl rfl hd h1
    · rw [cEx_ref hk (by omega)] at hat; exact va_alen C.1.1 C.1.2.1 hK (P_one hat) 0 6 rfl rfl rfl hd h1
    · rw [cEx_ref hk (by omega)] at hat; exact va_alen C.1.1 C.1.2.1 hK (P_one hat) 0 7 rfl rfl rfl hd h1
    · rw [cEx_ref hk (by omega)] at hat; exact va_alen C.1.1 C.1.2.1 hK (P_one hat) 0 8 rfl rfl rfl hd h1
    · rw [cEx_ref hk (by omega)] at hat; exact va_alen C.1.1 C.1.2.1 hK (P_one hat) 0 9 rfl rfl rfl hd h1
end RWH
