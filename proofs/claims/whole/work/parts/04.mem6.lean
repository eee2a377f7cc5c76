/-! ===== what the generated walks use ===== -/
def FUx : Nat := 2000000
theorem gd {α : Type} {c : Prop} [Decidable c] {a : Option α} {r : α} (h : (if c then a else none) = some r) : c ∧ a = some r := by
  by_cases hc : c
  · rw [if_pos hc] at h
    exact ⟨hc, h⟩
  · rw [if_neg hc] at h
    cases h
theorem it {α : Type} {c : Prop} [Decidable c] {a b r : α} (h : (if c then a else b) = r) (hc : c) : a = r := by rw [if_pos hc] at h; exact h
theorem ie {α : Type} {c : Prop} [Decidable c] {a b r : α} (h : (if c then a else b) = r) (hc : ¬ c) : b = r := by rw [if_neg hc] at h; exact h
theorem itc {α : Type} {c : Prop} [Decidable c] {a b r : α} (h : (if c then a else b) = r) : (c ∧ a = r) ∨ (¬ c ∧ b = r) := by
  by_cases hc : c
  · exact Or.inl ⟨hc, it h hc⟩
  · exact Or.inr ⟨hc, ie h hc⟩
theorem ob {α β : Type} {e : Option α} {k : α → Option β} {r : β} (h : e.bind k = some r) : ∃ a, e = some a ∧ k a = some r := by
  cases e with
  | none => cases h
  | some a => exact ⟨a, rfl, h⟩
def onl {α : Type} (e : Option Nat) (A : α) (B : Nat → α) : α := match e with
  | none => A
  | some a => B a
theorem onl_c {α : Type} {e : Option Nat} {A : α} {B : Nat → α} {r : α} (h : onl e A B = r) : (e = none ∧ A = r) ∨ (∃ a, e = some a ∧ B a = r) := by
  cases e with
  | none => exact Or.inl ⟨rfl, h⟩
  | some a => exact Or.inr ⟨a, rfl, h⟩
theorem okR_s {σ : Shp} {t a : Nat} (h : kdx σ a = t) : okR σ t (some a) = true := by simp [okR, h]
theorem i32n {x v : Int32} {k : Int} (h : ¬ x = v) (hv : v.toInt = k) : x.toInt ≠ k := fun e => h (Int32.toInt_inj.mp (e.trans hv.symm))
theorem lgc_eq {a b : Int64} : lg_cmp a b = 0 ↔ a = b := by
  unfold lg_cmp
  by_cases h : a > b
  · have : a ≠ b := by intro e; subst e; exact absurd h (by simp)
    simp [h, this]
  · by_cases e : a = b <;> simp [h, e]
theorem lgc_lt {a b : Int64} : lg_cmp a b < 0 ↔ a < b := by
  unfold lg_cmp
  by_cases h : a > b
  · have : ¬ a < b := by rw [gt_iff_lt, Int64.lt_iff_toInt_lt] at h; rw [Int64.lt_iff_toInt_lt]; omega
    simp [h, this]
  · by_cases e : a = b
    · subst e; simp
    · have : a < b := by
        rw [gt_iff_lt, Int64.lt_iff_toInt_lt] at h
        rw [Int64.lt_iff_toInt_lt]
        have : a.toInt ≠ b.toInt := fun q => e (Int64.toInt_inj.mp q)
        omega
      simp [h, e, this]
theorem lgc_gt {a b : Int64} : 0 < lg_cmp a b ↔ b < a := by
  unfold lg_cmp
  by_cases h : a > b
  · have h2 : b < a := h
    simp [h2]
  · have h2 : ¬ b < a := h
    by_cases e : a = b
    · subst e; simp
    · simp [h2, e]
theorem lgc_le {a b : Int64} : lg_cmp a b ≤ 0 ↔ a ≤ b := by
  have h := lgc_gt (a := a) (b := b)
  rw [Int32.lt_iff_toInt_lt, Int64.lt_iff_toInt_lt] at h
  rw [Int32.le_iff_toInt_le, Int64.le_iff_toInt_le]
  constructor
  · intro q
    have := mt h.mpr
    omega
  · intro q
    have := mt h.mp
    omega
theorem lgc_ge {a b : Int64} : 0 ≤ lg_cmp a b ↔ b ≤ a := by
  have h := lgc_lt (a := a) (b := b)
  rw [Int32.lt_iff_toInt_lt, Int64.lt_iff_toInt_lt] at h
  rw [Int32.le_iff_toInt_le, Int64.le_iff_toInt_le]
  constructor
  · intro q
    have := mt h.mpr
    omega
  · intro q
    have := mt h.mp
    omega
def Lex (σ σ1 : Shp) : Prop := nxx σ ≤ nxx σ1 ∧ slx σ ≤ slx σ1
theorem Lex.trans {a b c : Shp} (h1 : Lex a b) (h2 : Lex b c) : Lex a c := ⟨Nat.le_trans h1.1 h2.1, Nat.le_trans h1.2 h2.2⟩
theorem Lex_mkO {σ σ1 : Shp} {t n : Nat} (h : Lex (mkO σ t n) σ1) : Lex σ σ1 := ⟨Nat.le_trans (Nat.le_succ _) h.1, Nat.le_trans (Nat.le_add_right _ _) h.2⟩
theorem Lex_mkA {σ σ1 : Shp} {t n : Nat} (h : Lex (mkA σ t n) σ1) : Lex σ σ1 := ⟨Nat.le_trans (Nat.le_succ _) h.1, Nat.le_trans (Nat.le_add_right _ _) h.2⟩
theorem bdx_le {d w : Nat} {σ0 σ σ2 σ1 : Shp} (h1 : Lex σ σ2) (h2 : Lex σ2 σ1) (b : Bdx (rmx d w σ0 σ1) σ0 σ) : Bdx (rmx d w σ0 σ1) σ0 σ2 :=
  ⟨Nat.le_trans b.1 h1.1, Nat.le_trans b.2.1 h1.2, Nat.sub_le_sub_right h2.1 _, Nat.sub_le_sub_right h2.2 _⟩
section RWZ
variable {G : Gx} {l : Launch} {y : MethodName} {cc : ByteArray} {nL : Nat} {rty : Option FieldType} {Ex : State → Prop} {RR : Room} {σ0 : Shp} {QQ : List Frame → Array Value → State → State → Prop} {X : Stt} {pc : Nat} {L : List (Nat × SV)} {S : List SV} {r : Option Nat} {a : Nat} {v0 v1 v2 v3 v4 v5 v6 : SV}
theorem r_ref0n (h : r = none) (k : Wm G l y cc nL rty Ex RR σ0 QQ X pc L (vR none :: S)) : Wm G l y cc nL rty Ex RR σ0 QQ X pc L (vR r :: S) := h ▸ k
theorem r_ref0 (h : r = some a) (k : Wm G l y cc nL rty Ex RR σ0 QQ X pc L (vR (some a) :: S)) : Wm G l y cc nL rty Ex RR σ0 QQ X pc L (vR r :: S) := h ▸ k
theorem r_ref1 (h : r = some a) (k : Wm G l y cc nL rty Ex RR σ0 QQ X pc L (v0 :: vR (some a) :: S)) : Wm G l y cc nL rty Ex RR σ0 QQ X pc L (v0 :: vR r :: S) := h ▸ k
theorem r_ref2 (h : r = some a) (k : Wm G l y cc nL rty Ex RR σ0 QQ X pc L (v0 :: v1 :: vR (some a) :: S)) : Wm G l y cc nL rty Ex RR σ0 QQ X pc L (v0 :: v1 :: vR r :: S) := h ▸ k
theorem r_ref3 (h : r = some a) (k : Wm G l y cc nL rty Ex RR σ0 QQ X pc L (v0 :: v1 :: v2 :: vR (some a) :: S)) : Wm G l y cc nL rty Ex RR σ0 QQ X pc L (v0 :: v1 :: v2 :: vR r :: S) := h ▸ k
theorem r_ref4 (h : r = some a) (k : Wm G l y cc nL rty Ex RR σ0 QQ X pc L (v0 :: v1 :: v2 :: v3 :: vR (some a) :: S)) : Wm G l y cc nL rty Ex RR σ0 QQ X pc L (v0 :: v1 :: v2 :: v3 :: vR r :: S) := h ▸ k
theorem r_ref5 (h : r = some a) (k : Wm G l y cc nL rty Ex RR σ0 QQ X pc L (v0 :: v1 :: v2 :: v3 :: v4 :: vR (some a) :: S)) : Wm G l y cc nL rty Ex RR σ0 QQ X pc L (v0 :: v1 :: v2 :: v3 :: v4 :: vR r :: S) := h ▸ k
end RWZ
section RWY
variable {G : Gx} {l : Launch} {y : MethodName} {cc : ByteArray} {nL : Nat} {rty : Option FieldType} {Ex : State → Prop} {RR : Room} {σ0 : Shp} {QQ : List Frame → Array Value → State → State → Prop} {X : Stt} {pc : Nat} {L : List (Nat × SV)} {S : List SV}
variable {y2 : MethodName} {cc2 : ByteArray} {nL2 : Nat} {rty2 : Option FieldType} {d2 w2 : Nat} {X2 : Stt} {av : List SV} {i n : Nat}
theorem r_callS1 {v : SV} (hd : decode cc pc = .ok (.invokestatic i, 3)) (hC : Con G l y2 cc2 nL2 rty2 d2 w2 av X X2 (some v)) (hlk : Cond.methodLink y.cls i y2 ∈ tGd) (hw : Cond.static y2 ∈ tGd ∧ Cond.initialized y2.cls ∈ tGd ∧ Cond.code y2 cc2 nL2 rty2 ∈ tGd ∧ okM y2 n) (hn : av.length = n) (hd2 : d2 + 1 ≤ RR.frames ∧ 8 + (nL2 + 11) + w2 ≤ RR.locals) (hs : (S.map ctx).sum ≤ 8) (hm : nxx X.1 ≤ nxx X2.1 ∧ slx X.1 ≤ slx X2.1) (hb : Bdx RR σ0 X.1 → Bdx RR σ0 X2.1) (h : Wm G l y cc nL rty Ex RR σ0 QQ X2 (pc + 3) L (v :: S)) : Wm G l y cc nL rty Ex RR σ0 QQ X pc L (av.reverse ++ S) := r_callS (rv2 := (some v)) hd hC hlk hw hn hd2 hs hm hb h
theorem r_callS0 (hd : decode cc pc = .ok (.invokestatic i, 3)) (hC : Con G l y2 cc2 nL2 rty2 d2 w2 av X X2 none) (hlk : Cond.methodLink y.cls i y2 ∈ tGd) (hw : Cond.static y2 ∈ tGd ∧ Cond.initialized y2.cls ∈ tGd ∧ Cond.code y2 cc2 nL2 rty2 ∈ tGd ∧ okM y2 n) (hn : av.length = n) (hd2 : d2 + 1 ≤ RR.frames ∧ 8 + (nL2 + 11) + w2 ≤ RR.locals) (hs : (S.map ctx).sum ≤ 8) (hm : nxx X.1 ≤ nxx X2.1 ∧ slx X.1 ≤ slx X2.1) (hb : Bdx RR σ0 X.1 → Bdx RR σ0 X2.1) (h : Wm G l y cc nL rty Ex RR σ0 QQ X2 (pc + 3) L S) : Wm G l y cc nL rty Ex RR σ0 QQ X pc L (av.reverse ++ S) := r_callS (rv2 := none) hd hC hlk hw hn hd2 hs hm hb h
theorem r_callSN1 {v : SV} {host : String} (hd : decode cc pc = .ok (.invokestatic i, 3)) (hC : Con G l y2 cc2 nL2 rty2 d2 w2 av X X2 (some v)) (hlk : Cond.methodLinkNest y.cls i y2 host ∈ nestW) (hw : Cond.static y2 ∈ tGd ∧ Cond.initialized y2.cls ∈ tGd ∧ Cond.code y2 cc2 nL2 rty2 ∈ tGd ∧ okM y2 n) (hn : av.length = n) (hd2 : d2 + 1 ≤ RR.frames ∧ 8 + (nL2 + 11) + w2 ≤ RR.locals) (hs : (S.map ctx).sum ≤ 8) (hm : nxx X.1 ≤ nxx X2.1 ∧ slx X.1 ≤ slx X2.1) (hb : Bdx RR σ0 X.1 → Bdx RR σ0 X2.1) (h : Wm G l y cc nL rty Ex RR σ0 QQ X2 (pc + 3) L (v :: S)) : Wm G l y cc nL rty Ex RR σ0 QQ X pc L (av.reverse ++ S) := r_callSN (rv2 := (some v)) hd hC hlk hw hn hd2 hs hm hb h
theorem r_callSN0 {host : String} (hd : decode cc pc = .ok (.invokestatic i, 3)) (hC : Con G l y2 cc2 nL2 rty2 d2 w2 av X X2 none) (hlk : Cond.methodLinkNest y.cls i y2 host ∈ nestW) (hw : Cond.static y2 ∈ tGd ∧ Cond.initialized y2.cls ∈ tGd ∧ Cond.code y2 cc2 nL2 rty2 ∈ tGd ∧ okM y2 n) (hn : av.length = n) (hd2 : d2 + 1 ≤ RR.frames ∧ 8 + (nL2 + 11) + w2 ≤ RR.locals) (hs : (S.map ctx).sum ≤ 8) (hm : nxx X.1 ≤ nxx X2.1 ∧ slx X.1 ≤ slx X2.1) (hb : Bdx RR σ0 X.1 → Bdx RR σ0 X2.1) (h : Wm G l y cc nL rty Ex RR σ0 QQ X2 (pc + 3) L S) : Wm G l y cc nL rty Ex RR σ0 QQ X pc L (av.reverse ++ S) := r_callSN (rv2 := none) hd hC hlk hw hn hd2 hs hm hb h
theorem r_callV1 {v : SV} {a c1 : Nat} {T : u_T} {N : Nat} (hd : decode cc pc = .ok (.invokevirtual i, 3)) (hC : Con G l y2 cc2 nL2 rty2 d2 w2 (vR (some a) :: av) X X2 (some v)) (hk : kdx X.1 a = c1 + 1) (hcl : vwCl[c1]? = some (y2.cls, T, N)) (hlk : Cond.methodLink y.cls i y2 ∈ tGd) (hw : Cond.instanceMethod y2 ∈ tGd ∧ Cond.selects y2.cls y2 y2 ∈ tGd ∧ Cond.initialized y2.cls ∈ tGd ∧ Cond.code y2 cc2 nL2 rty2 ∈ tGd ∧ okM y2 n) (hn : av.length = n) (hd2 : d2 + 1 ≤ RR.frames ∧ 8 + (nL2 + 11) + w2 ≤ RR.locals) (hs : (S.map ctx).sum ≤ 8) (hm : nxx X.1 ≤ nxx X2.1 ∧ slx X.1 ≤ slx X2.1) (hb : Bdx RR σ0 X.1 → Bdx RR σ0 X2.1) (h : Wm G l y cc nL rty Ex RR σ0 QQ X2 (pc + 3) L (v :: S)) : Wm G l y cc nL rty Ex RR σ0 QQ X pc L (av.reverse ++ vR (some a) :: S) := r_callV (rv2 := (some v)) hd hC hk hcl hlk hw hn hd2 hs hm hb h
theorem r_callV0 {a c1 : Nat} {T : u_T} {N : Nat} (hd : decode cc pc = .ok (.invokevirtual i, 3)) (hC : Con G l y2 cc2 nL2 rty2 d2 w2 (vR (some a) :: av) X X2 none) (hk : kdx X.1 a = c1 + 1) (hcl : vwCl[c1]? = some (y2.cls, T, N)) (hlk : Cond.methodLink y.cls i y2 ∈ tGd) (hw : Cond.instanceMethod y2 ∈ tGd ∧ Cond.selects y2.cls y2 y2 ∈ tGd ∧ Cond.initialized y2.cls ∈ tGd ∧ Cond.code y2 cc2 nL2 rty2 ∈ tGd ∧ okM y2 n) (hn : av.length = n) (hd2 : d2 + 1 ≤ RR.frames ∧ 8 + (nL2 + 11) + w2 ≤ RR.locals) (hs : (S.map ctx).sum ≤ 8) (hm : nxx X.1 ≤ nxx X2.1 ∧ slx X.1 ≤ slx X2.1) (hb : Bdx RR σ0 X.1 → Bdx RR σ0 X2.1) (h : Wm G l y cc nL rty Ex RR σ0 QQ X2 (pc + 3) L S) : Wm G l y cc nL rty Ex RR σ0 QQ X pc L (av.reverse ++ vR (some a) :: S) := r_callV (rv2 := none) hd hC hk hcl hlk hw hn hd2 hs hm hb h
theorem r_callI1 {v : SV} {a : Nat} (hd : decode cc pc = .ok (.invokespecial i, 3)) (hC : Con G l y2 cc2 nL2 none d2 w2 (vR (some a) :: av) X X2 (some v)) (hlk : Cond.methodLink y.cls i y2 ∈ tGd) (hy : y2.name = "<init>") (hw : Cond.instanceMethod y2 ∈ tGd ∧ Cond.initialized y2.cls ∈ tGd ∧ Cond.code y2 cc2 nL2 none ∈ tGd ∧ okM y2 n) (hn : av.length = n) (hd2 : d2 + 1 ≤ RR.frames ∧ 8 + (nL2 + 11) + w2 ≤ RR.locals) (hs : (S.map ctx).sum ≤ 8) (hm : nxx X.1 ≤ nxx X2.1 ∧ slx X.1 ≤ slx X2.1) (hb : Bdx RR σ0 X.1 → Bdx RR σ0 X2.1) (h : Wm G l y cc nL rty Ex RR σ0 QQ X2 (pc + 3) L (v :: S)) : Wm G l y cc nL rty Ex RR σ0 QQ X pc L (av.reverse ++ vR (some a) :: S) := r_callI (rv2 := (some v)) hd hC hlk hy hw hn hd2 hs hm hb h
theorem r_callI0 {a : Nat} (hd : decode cc pc = .ok (.invokespecial i, 3)) (hC : Con G l y2 cc2 nL2 none d2 w2 (vR (some a) :: av) X X2 none) (hlk : Cond.methodLink y.cls i y2 ∈ tGd) (hy : y2.name = "<init>") (hw : Cond.instanceMethod y2 ∈ tGd ∧ Cond.initialized y2.cls ∈ tGd ∧ Cond.code y2 cc2 nL2 none ∈ tGd ∧ okM y2 n) (hn : av.length = n) (hd2 : d2 + 1 ≤ RR.frames ∧ 8 + (nL2 + 11) + w2 ≤ RR.locals) (hs : (S.map ctx).sum ≤ 8) (hm : nxx X.1 ≤ nxx X2.1 ∧ slx X.1 ≤ slx X2.1) (hb : Bdx RR σ0 X.1 → Bdx RR σ0 X2.1) (h : Wm G l y cc nL rty Ex RR σ0 QQ X2 (pc + 3) L S) : Wm G l y cc nL rty Ex RR σ0 QQ X pc L (av.reverse ++ vR (some a) :: S) := r_callI (rv2 := none) hd hC hlk hy hw hn hd2 hs hm hb h
theorem r_callIN1 {v : SV} {a : Nat} {host : String} (hd : decode cc pc = .ok (.invokespecial i, 3)) (hC : Con G l y2 cc2 nL2 none d2 w2 (vR (some a) :: av) X X2 (some v)) (hlk : Cond.methodLinkNest y.cls i y2 host ∈ nestW) (hy : y2.name = "<init>") (hw : Cond.instanceMethod y2 ∈ tGd ∧ Cond.initialized y2.cls ∈ tGd ∧ Cond.code y2 cc2 nL2 none ∈ tGd ∧ okM y2 n) (hn : av.length = n) (hd2 : d2 + 1 ≤ RR.frames ∧ 8 + (nL2 + 11) + w2 ≤ RR.locals) (hs : (S.map ctx).sum ≤ 8) (hm : nxx X.1 ≤ nxx X2.1 ∧ slx X.1 ≤ slx X2.1) (hb : Bdx RR σ0 X.1 → Bdx RR σ0 X2.1) (h : Wm G l y cc nL rty Ex RR σ0 QQ X2 (pc + 3) L (v :: S)) : Wm G l y cc nL rty Ex RR σ0 QQ X pc L (av.reverse ++ vR (some a) :: S) := r_callIN (rv2 := (some v)) hd hC hlk hy hw hn hd2 hs hm hb h
theorem r_callIN0 {a : Nat} {host : String} (hd : decode cc pc = .ok (.invokespecial i, 3)) (hC : Con G l y2 cc2 nL2 none d2 w2 (vR (some a) :: av) X X2 none) (hlk : Cond.methodLinkNest y.cls i y2 host ∈ nestW) (hy : y2.name = "<init>") (hw : Cond.instanceMethod y2 ∈ tGd ∧ Cond.initialized y2.cls ∈ tGd ∧ Cond.code y2 cc2 nL2 none ∈ tGd ∧ okM y2 n) (hn : av.length = n) (hd2 : d2 + 1 ≤ RR.frames ∧ 8 + (nL2 + 11) + w2 ≤ RR.locals) (hs : (S.map ctx).sum ≤ 8) (hm : nxx X.1 ≤ nxx X2.1 ∧ slx X.1 ≤ slx X2.1) (hb : Bdx RR σ0 X.1 → Bdx RR σ0 X2.1) (h : Wm G l y cc nL rty Ex RR σ0 QQ X2 (pc + 3) L S) : Wm G l y cc nL rty Ex RR σ0 QQ X pc L (av.reverse ++ vR (some a) :: S) := r_callIN (rv2 := none) hd hC hlk hy hw hn hd2 hs hm hb h
end RWY
