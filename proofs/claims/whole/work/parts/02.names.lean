/-! ===== BEGIN words of one list among another's, by their places ===== -/
theorem goodIn_r {big : List Cond} (ws : List Cond) (ps : List Nat) (hp : ws = ps.filterMap (fun i => big[i]?)) (h : ws.all goodWord = true) : GoodIn big ws := by
  intro w hw
  have h1 := List.all_eq_true.mp h w hw
  rw [hp] at hw
  obtain ⟨i, -, hi⟩ := List.mem_filterMap.mp hw
  have hm : w ∈ big := by first | exact List.mem_of_getElem? hi | exact List.getElem?_mem hi
  exact ⟨hm, good_of_word h1⟩
theorem goodIn_app {big a b : List Cond} (ha : GoodIn big a) (hb : GoodIn big b) : GoodIn big (a ++ b) := fun w h => (List.mem_append.mp h).elim (ha w) (hb w)
theorem goodIn_ca {big a b : List Cond} {c : Cond} (ha : GoodIn big (c :: a)) (hb : GoodIn big b) : GoodIn big (c :: (a ++ b)) := fun w h => (List.mem_cons.mp h).elim (fun e => ha w (List.mem_cons.mpr (Or.inl e))) (fun h => (List.mem_append.mp h).elim (fun h => ha w (List.mem_cons.mpr (Or.inr h))) (hb w))
theorem goodIn_sub {big ws : List Cond} (hm : ∀ w ∈ ws, w ∈ big) (h : ws.all goodWord = true) : GoodIn big ws := fun w hw => ⟨hm w hw, good_of_word (List.all_eq_true.mp h w hw)⟩
/-! ===== END ===== -/

/-! ===== BEGIN new T[n][m]: the outer array a place, the inner ones among the pooled ===== -/
/-- f, but v at every address of l -/
def vr_up {α : Type} (f : Nat → α) (l : List Nat) (v : α) : Nat → α := fun a => if a ∈ l then v else f a
theorem vr_up_in {α : Type} {f : Nat → α} {l : List Nat} {v : α} {a : Nat} (h : a ∈ l) : vr_up f l v a = v := if_pos h
theorem vr_up_ne {α : Type} {f : Nat → α} {l : List Nat} {v : α} {a : Nat} (h : a ∉ l) : vr_up f l v a = f a := if_neg h
theorem vr_rows {L l : List Nat} {f : Nat → va_E} {e : va_E} (h : ∀ a, a ∈ l → a ∉ L) : va_pl L f ++ l.map (fun a => (a, e)) = va_pl (L ++ l) (vr_up f l e) := by
  unfold va_pl
  rw [List.map_append]
  congr 1
  · apply List.map_congr_left
    intro a ha
    rw [vr_up_ne (fun q => h a q ha)]
  · apply List.map_congr_left
    intro a ha
    rw [vr_up_in ha]
theorem vr_lay {X rows : va_W} {x : Nat × va_E} {pl : va_W} {D : va_G} {cl : List vw_C} {H : Heap} (hP : va_P D cl (((X ++ pl) ++ [x]) ++ rows) H) : va_P D cl ((X ++ [x]) ++ (pl ++ rows)) H := by
  rw [List.append_assoc (X ++ pl)] at hP
  have h := va_P.swap hP
  rw [← List.append_assoc X] at h
  have h2 := va_P.swap h
  rw [List.append_assoc (X ++ [x])] at h2
  exact h2
theorem vr_layD {X rows : va_W} {x : Nat × va_E} {pl : va_W} {A : Nat → Prop} (hD : va_D A (((X ++ pl) ++ [x]) ++ rows)) : va_D A ((X ++ [x]) ++ (pl ++ rows)) := by
  rw [List.append_assoc (X ++ pl)] at hD
  have h := va_D.swap hD
  rw [← List.append_assoc X] at h
  have h2 := va_D.swap h
  rw [List.append_assoc (X ++ [x])] at h2
  exact h2
theorem vr_outer (c : ClassId) (N h0 : Nat) : ∀ i : Nat, Jvm.Free.Multi.outerC c N h0 i = arrV c N (fun j => va_rf (if j < i then some (h0 + 1 + j) else none))
  | 0 => by
    show ({ cls := c, slots := Array.replicate N .null, vm := .none } : Cell) = _
    rw [arrV_new]
    refine congrArg (arrV c N) (funext fun j => ?_)
    simp [va_rf]
  | i + 1 => by
    show (Jvm.Free.Multi.outerC c N h0 i).setSlot i (.ref (h0 + 1 + i)) = _
    rw [vr_outer c N h0 i, arrV_store]
    refine congrArg (arrV c N) (funext fun j => ?_)
    by_cases e : j = i
    · subst e
      simp [updV, va_rf]
    · by_cases h : j < i
      · simp [updV, e, h, Nat.lt_succ_of_lt h]
      · simp [updV, e, h, show ¬ j < i + 1 by omega]
def va_AOA (ty : FieldType) (U : State) : Prop := (Cond.arrayOver (.array ty)).before #[] U = true
theorem va_AOA.of {ty : FieldType} {A : Array Value} {U : State} (h : (Cond.arrayOver (.array ty)).before A U = true) : va_AOA ty U := h
theorem va_AOA.use {ty : FieldType} {A : Array Value} {U : State} (h : va_AOA ty U) : (Cond.arrayOver (.array ty)).before A U = true := h
theorem va_AOA.moved {ty : FieldType} {u U : State} (hvm : u.vm.Alike U.vm) (h : va_AOA ty u) : va_AOA ty U := by
  show (Cond.arrayOver (.array ty)).before #[] (u.setVm U.vm) = true
  rw [Cond.arrayOver_setVmC hvm (.array ty)]
  exact h

section VGM
variable {p : Program} {l : Launch} {e : Env} {R : Room} {s : State} {m : MethodId} {args : Array Value} {below : List Frame} {meth : Method} {c : Code} {H : Heap} {locs : List Loc} {cells slots : Nat} {Q : State → Prop}
variable {cc : ByteArray} {pc : Nat} {ls : Array Slot} {rest : List Value} {D : va_G} {cl : List vw_C} {A : Nat → Prop} {a : Nat} {tys : List (ClassId × FieldType)} {ws : va_W} {H0 : Heap}
theorem va_mna {X : va_W} {L : List Nat} {f : Nat → va_E} {cc : ByteArray} (hexec : p.tables.exec = Jvm.exec) (hb : c.code = cc) {own : String} {index : Nat} {ty : FieldType} {cy : ClassId} (hown : s.vm.findClass own = some m.cls) (hclink : (Cond.classLink own index ("[" ++ (FieldType.array ty).toString)).before args s = true) (hover : va_AOA ty s) (harr : (Cond.arrayClass ty).before args s = true) (hcy : s.vm.findClass (FieldType.array ty).toString = some cy)
    (hK : va_K D cl tys s) (hP : va_P D cl (X ++ va_pl L f) H) (hD : va_D A (X ++ va_pl L f)) (hS : va_S A H0 H locs) (hA : ∀ q, H0.size ≤ q → A q) {n k : Int32} {N' K' : Nat} {z : vp_A} (hn : ¬ n < 0) (hk : ¬ k < 0) (hN : n.toNatClampNeg = N') (hM : k.toNatClampNeg = K')
    (hb1 : N' * 4 ≤ 536870912) (hb2 : K' * componentBytes ty ≤ 536870912) (hb3 : K' ≤ 536870912) (hdf : fits ty (defaultValue ty) = true) (hdd : (defaultValue ty).isDefault = true) (hcells : cells + (1 + N') ≤ R.cells) (hslots : slots + (N' + N' * K') ≤ R.slots) (hz : ∀ c : ClassId, Jvm.Free.Multi.innerC c K' (defaultValue ty) = vp_cell c z) (hdg : decode cc pc = .ok (.multianewarray index 2, 4))
    (kk : ∀ (q : Nat) (r : Nat → Nat) (cA : ClassId) (H1 : Heap), (∀ i j : Nat, i < N' → j < N' → r i = r j → i = j) → (∀ i : Nat, i < N' → r i ∉ L) → va_K D cl (tys ++ [(cA, .array ty)]) s →
      va_P D cl ((X ++ [(q, .inl (cA, N', .inr (.inr (.inr (.inr (fun i => if i < N' then some (r i) else none))))))]) ++ va_pl (L ++ (List.range N').map r) (vr_up f ((List.range N').map r) (.inl (cy, z)))) H1 → va_D A ((X ++ [(q, .inl (cA, N', .inr (.inr (.inr (.inr (fun i => if i < N' then some (r i) else none))))))]) ++ va_pl (L ++ (List.range N').map r) (vr_up f ((List.range N').map r) (.inl (cy, z)))) → va_S A H0 H1 locs →
      W p l e R s m args below meth c H1 locs (cells + 1 + N') (slots + N' + N' * K') Q (F0 m (pc + 4) ls (.ref q :: rest))) : W p l e R s m args below meth c H locs cells slots Q (F0 m pc ls (.int k :: .int n :: rest)) := by
  subst hN
  subst hM
  intro T hT Xs
  obtain ⟨vm₁, cA, comp, -, fA, fC, hO, -, X', step⟩ := Xs.multianewarray2F hexec hown hclink (va_AOA.use hover) harr (g := F0 m pc ls (.int k :: .int n :: rest)) rfl (by rw [hb]; exact hdg) rfl hn hk hb1 hb2 hb3 hdf hdd hcells hslots
  have ec : some cy = some comp := hcy.symm.trans fC
  cases ec
  generalize hF : Jvm.Free.Multi.fill (T.setVm vm₁) cA cy n.toNatClampNeg k.toNatClampNeg (defaultValue ty) n.toNatClampNeg = F at X' step
  have hTh : (T.setVm vm₁).heap = H := hT
  obtain ⟨f1, f2, -, -⟩ := Jvm.Free.Multi.fill_facts (T.setVm vm₁) cA cy n.toNatClampNeg k.toNatClampNeg (defaultValue ty) n.toNatClampNeg
  rw [hF, hTh] at f1 f2
  have hold : ∀ x : Nat, x < H.size → F.heap[x]? = H[x]? := fun x hx => by
    have := Jvm.Free.Multi.fill_old (T.setVm vm₁) cA cy n.toNatClampNeg k.toNatClampNeg (defaultValue ty) (a := x) (by rw [hTh]; exact hx) n.toNatClampNeg
    rw [hF, hTh] at this
    exact this
  have hrow : ∀ j : Nat, j < n.toNatClampNeg → F.heap[H.size + 1 + j]? = some (vp_cell cy z) := fun j hj => by
    have := Jvm.Free.Multi.fill_inner (T.setVm vm₁) cA cy n.toNatClampNeg k.toNatClampNeg (defaultValue ty) n.toNatClampNeg j hj
    rw [hF, hTh, hz] at this
    exact this
  have hout : Jvm.Free.Multi.outerC cA n.toNatClampNeg H.size n.toNatClampNeg = vp_cell cA (n.toNatClampNeg, .inr (.inr (.inr (.inr (fun i => if i < n.toNatClampNeg then some (H.size + 1 + i) else none))))) := by
    rw [vp_cell_q]
    exact vr_outer cA n.toNatClampNeg H.size n.toNatClampNeg
  rw [hout] at f2
  have hlt : ∀ a, a ∈ L → a < H.size := fun a ha => by
    obtain ⟨k9, hk9⟩ := va_pl_get (X := X) (f := f) ha
    exact (hP k9 _ hk9).lt
  have hnl : ∀ i : Nat, i < n.toNatClampNeg → H.size + 1 + i ∉ L := fun i _ h => by
    have := hlt _ h
    omega
  have hnm : ∀ a, a ∈ (List.range n.toNatClampNeg).map (fun i => H.size + 1 + i) → a ∉ L := fun a ha h => by
    obtain ⟨i, -, rfl⟩ := List.mem_map.mp ha
    have := hlt _ h
    omega
  have hP0 : va_P D cl (X ++ va_pl L f) F.heap := hP.kept (fun k9 x hx => hold x.1 ((hP k9 x hx).lt))
  have hP1 : va_P D cl ((X ++ va_pl L f) ++ [(H.size, .inl (cA, n.toNatClampNeg, .inr (.inr (.inr (.inr (fun i => if i < n.toNatClampNeg then some (H.size + 1 + i) else none))))))]) F.heap := hP0.app (fun k9 x hx => by
    have h0 : k9 < 1 := (List.getElem?_eq_some_iff.mp hx).1
    rw [show k9 = 0 by omega] at hx
    cases hx
    exact f2)
  have hP2 : va_P D cl (((X ++ va_pl L f) ++ [(H.size, .inl (cA, n.toNatClampNeg, .inr (.inr (.inr (.inr (fun i => if i < n.toNatClampNeg then some (H.size + 1 + i) else none))))))]) ++ ((List.range n.toNatClampNeg).map (fun i => H.size + 1 + i)).map (fun a => (a, .inl (cy, z)))) F.heap := hP1.app (fun k9 x hx => by
    obtain ⟨a, ha, rfl⟩ := List.mem_map.mp (List.mem_of_getElem? hx)
    obtain ⟨i, hi, rfl⟩ := List.mem_map.mp ha
    exact hrow i (List.mem_range.mp hi))
  have hD2 : va_D A (((X ++ va_pl L f) ++ [(H.size, .inl (cA, n.toNatClampNeg, .inr (.inr (.inr (.inr (fun i => if i < n.toNatClampNeg then some (H.size + 1 + i) else none))))))]) ++ ((List.range n.toNatClampNeg).map (fun i => H.size + 1 + i)).map (fun a => (a, .inl (cy, z)))) := by
    have hD1 := hD.push (e := .inl (cA, n.toNatClampNeg, .inr (.inr (.inr (.inr (fun i => if i < n.toNatClampNeg then some (H.size + 1 + i) else none)))))) hP rfl (hA _ hS.1)
    generalize hW1 : (X ++ va_pl L f) ++ [(H.size, .inl (cA, n.toNatClampNeg, .inr (.inr (.inr (.inr (fun i => if i < n.toNatClampNeg then some (H.size + 1 + i) else none))))))] = W1 at hD1 hP1 ⊢
    have hle : ∀ (k9 : Nat) (x : Nat × va_E), W1[k9]? = some x → x.1 ≤ H.size := fun k9 x hx => by
      rw [← hW1] at hx
      by_cases hl : k9 < (X ++ va_pl L f).length
      · rw [List.getElem?_append_left hl] at hx
        exact Nat.le_of_lt ((hP k9 x hx).lt)
      · rw [List.getElem?_append_right (by omega)] at hx
        have h0 : k9 - (X ++ va_pl L f).length < 1 := (List.getElem?_eq_some_iff.mp hx).1
        rw [show k9 - (X ++ va_pl L f).length = 0 by omega] at hx
        cases hx
        exact Nat.le_refl _
    have hr : ∀ (k9 : Nat) (x : Nat × va_E), (((List.range n.toNatClampNeg).map (fun i => H.size + 1 + i)).map (fun a => ((a, .inl (cy, z)) : Nat × va_E)))[k9]? = some x → x.1 = H.size + 1 + k9 := fun k9 x hx => by
      rw [List.getElem?_map, List.getElem?_map] at hx
      by_cases h9 : k9 < n.toNatClampNeg
      · rw [List.getElem?_range h9] at hx
        cases hx
        rfl
      · have hn0 : (List.range n.toNatClampNeg)[k9]? = none := List.getElem?_eq_none (by rw [List.length_range]; omega)
        rw [hn0] at hx
        cases hx
    refine ⟨fun i j x y hi hj hxy => ?_, fun k9 x hx => ?_⟩
    · by_cases h1 : i < W1.length <;> by_cases h2 : j < W1.length
      · rw [List.getElem?_append_left h1] at hi
        rw [List.getElem?_append_left h2] at hj
        exact hD1.1 i j x y hi hj hxy
      · rw [List.getElem?_append_left h1] at hi
        rw [List.getElem?_append_right (by omega)] at hj
        have := hle _ _ hi
        have := hr _ _ hj
        omega
      · rw [List.getElem?_append_right (by omega)] at hi
        rw [List.getElem?_append_left h2] at hj
        have := hle _ _ hj
        have := hr _ _ hi
        omega
      · rw [List.getElem?_append_right (by omega)] at hi hj
        have := hr _ _ hi
        have := hr _ _ hj
        omega
    · by_cases h1 : k9 < W1.length
      · rw [List.getElem?_append_left h1] at hx
        exact hD1.2 k9 x hx
      · rw [List.getElem?_append_right (by omega)] at hx
        have := hr _ _ hx
        exact hA _ (by have := hS.1; omega)
  have hAr : ArrOfT s cA (.array ty) := fun N9 z9 => by
    obtain ⟨-, k9, hk9, cm9, hkk9⟩ := (hO 0 0 0).1
    exact ⟨(fun q hq => by cases hq), k9, hk9, cm9, hkk9⟩
  have hK2 : va_K D cl (tys ++ [(cA, .array ty)]) s := ⟨hK.1, fun k9 x hx => by
    by_cases hl : k9 < tys.length
    · rw [List.getElem?_append_left hl] at hx
      exact hK.2 k9 x hx
    · rw [List.getElem?_append_right (by omega)] at hx
      have h0 : k9 - tys.length < 1 := (List.getElem?_eq_some_iff.mp hx).1
      rw [show k9 - tys.length = 0 by omega] at hx
      cases hx
      exact ⟨hAr, fA⟩⟩
  obtain ⟨t, a1, b1⟩ := kk H.size (fun i => H.size + 1 + i) cA F.heap (fun i j _ _ h => by have h9 : H.size + 1 + i = H.size + 1 + j := h; omega) hnl hK2 (by rw [← vr_rows hnm]; exact vr_lay hP2) (by rw [← vr_rows hnm]; exact vr_layD hD2) ⟨by rw [f1]; have := hS.1; omega, fun x h1 h2 => (hold x (Nat.lt_of_lt_of_le h1 hS.1)).trans (hS.2.1 x h1 h2), hS.2.2⟩ F rfl X'
  refine ⟨t, step t ?_, b1⟩
  have e : T.heap.size = H.size := by rw [hT]
  rw [e]
  exact a1
end VGM
/-! ===== END ===== -/

/-! ===== BEGIN printed: names, fields, word lists, decode rows ===== -/
def RX0 : String := "GlassHouse$Asker"
def TX0 : u_T := fun k => match k with
  | 0 => ("GlassHouse$Asker", "numbers", "[I", true)
  | 1 => ("GlassHouse$Asker", "many", "I", false)
  | _ => ("GlassHouse$Asker", "fault", "I", false)
def tyX0 : Nat → FieldType := fun k => match k with
  | 0 => .array .int
  | 1 => .int
  | _ => .int
abbrev wsX00 : List Cond := u_ws RX0 TX0 3
theorem nmX0 : ∀ a, a < 3 → ∀ b, b < 3 → a ≠ b → (TX0 a).2.1 ≠ (TX0 b).2.1 := by decide +kernel
theorem tyX0_ok : ∀ k, k < 3 → parseFieldDescriptor (TX0 k).2.2.1 = some (tyX0 k) := by decide +kernel
abbrev cX0_init : ByteArray := prog_2_method_1_code
def yX0_init : MethodName := ⟨RX0, "<init>", "()V"⟩
abbrev cX0_traceAt : ByteArray := prog_2_method_2_code
def yX0_traceAt : MethodName := ⟨RX0, "traceAt", "(I)I"⟩
abbrev cX0_beginAsk : ByteArray := prog_2_method_3_code
def yX0_beginAsk : MethodName := ⟨RX0, "beginAsk", "()V"⟩
abbrev cX0_tell : ByteArray := prog_2_method_4_code
def yX0_tell : MethodName := ⟨RX0, "tell", "(LGlassHouse$Thing;I)I"⟩
abbrev cX0_answers : ByteArray := prog_2_method_5_code
def yX0_answers : MethodName := ⟨RX0, "answers", "(II)Z"⟩
abbrev cX0_begin : ByteArray := prog_2_method_6_code
def yX0_begin : MethodName := ⟨RX0, "begin", "(I)V"⟩
abbrev cX0_faulted : ByteArray := prog_2_method_7_code
def yX0_faulted : MethodName := ⟨RX0, "faulted", "(I)I"⟩
abbrev cX0_sizeOf : ByteArray := prog_2_method_8_code
def yX0_sizeOf : MethodName := ⟨RX0, "sizeOf", "(LGlassHouse$Thing;I)I"⟩
abbrev cX0_thirstOf : ByteArray := prog_2_method_9_code
def yX0_thirstOf : MethodName := ⟨RX0, "thirstOf", "(LGlassHouse$Thing;)I"⟩
abbrev cX0_costAlone : ByteArray := prog_2_method_10_code
def yX0_costAlone : MethodName := ⟨RX0, "costAlone", "(LGlassHouse$Thing;)I"⟩
abbrev cX0_markOf : ByteArray := prog_2_method_11_code
def yX0_markOf : MethodName := ⟨RX0, "markOf", "(LGlassHouse$Thing;)I"⟩
def RX1 : String := "GlassHouse$Books"
def TX1 : u_T := fun k => match k with
  | 0 => ("GlassHouse$Books", "bytes", "[I", true)
  | 1 => ("GlassHouse$Books", "draft", "[I", true)
  | 2 => ("GlassHouse$Books", "readPages", "[I", true)
  | 3 => ("GlassHouse$Books", "latest", "I", false)
  | 4 => ("GlassHouse$Books", "next", "I", false)
  | 5 => ("GlassHouse$Books", "dark", "Z", false)
  | _ => ("GlassHouse$Books", "left", "I", false)
def tyX1 : Nat → FieldType := fun k => match k with
  | 0 => .array .int
  | 1 => .array .int
  | 2 => .array .int
  | 3 => .int
  | 4 => .int
  | 5 => .boolean
  | _ => .int
abbrev wsX10 : List Cond := u_ws RX1 TX1 7
theorem nmX1 : ∀ a, a < 7 → ∀ b, b < 7 → a ≠ b → (TX1 a).2.1 ≠ (TX1 b).2.1 := by decide +kernel
theorem tyX1_ok : ∀ k, k < 7 → parseFieldDescriptor (TX1 k).2.2.1 = some (tyX1 k) := by decide +kernel
abbrev cX1_init : ByteArray := prog_3_method_1_code
def yX1_init : MethodName := ⟨RX1, "<init>", "()V"⟩
abbrev cX1_isByte : ByteArray := prog_3_method_2_code
def yX1_isByte : MethodName := ⟨RX1, "isByte", "(II)Z"⟩
abbrev cX1_writes : ByteArray := prog_3_method_3_code
def yX1_writes : MethodName := ⟨RX1, "writes", "(I)Z"⟩
abbrev cX1_powerSet : ByteArray := prog_3_method_4_code
def yX1_powerSet : MethodName := ⟨RX1, "powerSet", "(I)I"⟩
abbrev cX1_written : ByteArray := prog_3_method_5_code
def yX1_written : MethodName := ⟨RX1, "written", "(I[J)I"⟩
abbrev cX1_fillDraft : ByteArray := prog_3_method_6_code
def yX1_fillDraft : MethodName := ⟨RX1, "fillDraft", "(II[J)V"⟩
abbrev cX1_putNumber : ByteArray := prog_3_method_7_code
def yX1_putNumber : MethodName := ⟨RX1, "putNumber", "(IIJ)V"⟩
abbrev cX1_sumOf : ByteArray := prog_3_method_8_code
def yX1_sumOf : MethodName := ⟨RX1, "sumOf", "([II)I"⟩
abbrev cX1_numberAt : ByteArray := prog_3_method_9_code
def yX1_numberAt : MethodName := ⟨RX1, "numberAt", "(III)J"⟩
abbrev cX1_numberOf : ByteArray := prog_3_method_10_code
def yX1_numberOf : MethodName := ⟨RX1, "numberOf", "(I)I"⟩
abbrev cX1_allZero : ByteArray := prog_3_method_11_code
def yX1_allZero : MethodName := ⟨RX1, "allZero", "(III)Z"⟩
abbrev cX1_isWhole : ByteArray := prog_3_method_12_code
def yX1_isWhole : MethodName := ⟨RX1, "isWhole", "(I)Z"⟩
abbrev cX1_leastWith : ByteArray := prog_3_method_13_code
def yX1_leastWith : MethodName := ⟨RX1, "leastWith", "(I)I"⟩
abbrev cX1_gatherRead : ByteArray := prog_3_method_14_code
def yX1_gatherRead : MethodName := ⟨RX1, "gatherRead", "()I"⟩
abbrev cX1_opened : ByteArray := prog_3_method_15_code
def yX1_opened : MethodName := ⟨RX1, "opened", "()I"⟩
abbrev cX1_readOf : ByteArray := prog_3_method_16_code
def yX1_readOf : MethodName := ⟨RX1, "readOf", "(II)J"⟩
abbrev cX1_clashes : ByteArray := prog_3_method_17_code
def yX1_clashes : MethodName := ⟨RX1, "clashes", "()I"⟩
abbrev cX1_samePages : ByteArray := prog_3_method_18_code
def yX1_samePages : MethodName := ⟨RX1, "samePages", "(II)Z"⟩
def RX2 : String := "GlassHouse$Feeds"
def TX2 : u_T := fun k => match k with
  | 0 => ("GlassHouse$Feeds", "contents", "[[I", true)
  | 1 => ("GlassHouse$Feeds", "upper", "[[J", true)
  | 2 => ("GlassHouse$Feeds", "lower", "[[J", true)
  | 3 => ("GlassHouse$Feeds", "pivots", "[I", true)
  | 4 => ("GlassHouse$Feeds", "fractionUpper", "[J", true)
  | 5 => ("GlassHouse$Feeds", "fractionLower", "[J", true)
  | 6 => ("GlassHouse$Feeds", "witness", "[J", true)
  | _ => ("GlassHouse$Feeds", "rank", "I", false)
def tyX2 : Nat → FieldType := fun k => match k with
  | 0 => .array (.array .int)
  | 1 => .array (.array .long)
  | 2 => .array (.array .long)
  | 3 => .array .int
  | 4 => .array .long
  | 5 => .array .long
  | 6 => .array .long
  | _ => .int
abbrev wsX20 : List Cond := u_ws RX2 TX2 8
theorem nmX2 : ∀ a, a < 8 → ∀ b, b < 8 → a ≠ b → (TX2 a).2.1 ≠ (TX2 b).2.1 := by decide +kernel
theorem tyX2_ok : ∀ k, k < 8 → parseFieldDescriptor (TX2 k).2.2.1 = some (tyX2 k) := by decide +kernel
abbrev cX2_init : ByteArray := prog_4_method_1_code
def yX2_init : MethodName := ⟨RX2, "<init>", "()V"⟩
abbrev cX2_becomes : ByteArray := prog_4_method_2_code
def yX2_becomes : MethodName := ⟨RX2, "becomes", "(III)I"⟩
abbrev cX2_outcome : ByteArray := prog_4_method_3_code
def yX2_outcome : MethodName := ⟨RX2, "outcome", "(II)J"⟩
abbrev cX2_solved : ByteArray := prog_4_method_4_code
def yX2_solved : MethodName := ⟨RX2, "solved", "()I"⟩
abbrev cX2_clearOutcome : ByteArray := prog_4_method_5_code
def yX2_clearOutcome : MethodName := ⟨RX2, "clearOutcome", "()V"⟩
abbrev cX2_fillRows : ByteArray := prog_4_method_6_code
def yX2_fillRows : MethodName := ⟨RX2, "fillRows", "()V"⟩
abbrev cX2_workColumn : ByteArray := prog_4_method_7_code
def yX2_workColumn : MethodName := ⟨RX2, "workColumn", "(I)V"⟩
abbrev cX2_changePlaces : ByteArray := prog_4_method_8_code
def yX2_changePlaces : MethodName := ⟨RX2, "changePlaces", "(II)V"⟩
abbrev cX2_divideRow : ByteArray := prog_4_method_9_code
def yX2_divideRow : MethodName := ⟨RX2, "divideRow", "(IJJ)V"⟩
abbrev cX2_takeRow : ByteArray := prog_4_method_10_code
def yX2_takeRow : MethodName := ⟨RX2, "takeRow", "(IIJJ)V"⟩
abbrev cX2_becomesFraction : ByteArray := prog_4_method_11_code
def yX2_becomesFraction : MethodName := ⟨RX2, "becomesFraction", "(IIJJ)V"⟩
abbrev cX2_commonDivisor : ByteArray := prog_4_method_12_code
def yX2_commonDivisor : MethodName := ⟨RX2, "commonDivisor", "(JJ)J"⟩
abbrev cX2_tellFractions : ByteArray := prog_4_method_13_code
def yX2_tellFractions : MethodName := ⟨RX2, "tellFractions", "()Z"⟩
abbrev cX2_tellWitness : ByteArray := prog_4_method_14_code
def yX2_tellWitness : MethodName := ⟨RX2, "tellWitness", "(I)V"⟩
abbrev cX2_firstSign : ByteArray := prog_4_method_15_code
def yX2_firstSign : MethodName := ⟨RX2, "firstSign", "()I"⟩
def RX3 : String := "GlassHouse$Frame"
def TX3 : u_T := fun k => match k with
  | 0 => ("GlassHouse$Frame", "op", "I", false)
  | 1 => ("GlassHouse$Frame", "plan", "I", false)
  | 2 => ("GlassHouse$Frame", "place", "I", false)
  | 3 => ("GlassHouse$Frame", "next", "I", false)
  | 4 => ("GlassHouse$Frame", "end", "I", false)
  | 5 => ("GlassHouse$Frame", "a", "I", false)
  | 6 => ("GlassHouse$Frame", "b", "I", false)
  | 7 => ("GlassHouse$Frame", "c", "I", false)
  | 8 => ("GlassHouse$Frame", "stage", "I", false)
  | 9 => ("GlassHouse$Frame", "tries", "I", false)
  | 10 => ("GlassHouse$Frame", "mark", "I", false)
  | 11 => ("GlassHouse$Frame", "met", "I", false)
  | _ => ("GlassHouse$Frame", "waiting", "[I", true)
def tyX3 : Nat → FieldType := fun k => match k with
  | 0 => .int
  | 1 => .int
  | 2 => .int
  | 3 => .int
  | 4 => .int
  | 5 => .int
  | 6 => .int
  | 7 => .int
  | 8 => .int
  | 9 => .int
  | 10 => .int
  | 11 => .int
  | _ => .array .int
abbrev wsX30 : List Cond := u_ws RX3 TX3 13
theorem nmX3 : ∀ a, a < 13 → ∀ b, b < 13 → a ≠ b → (TX3 a).2.1 ≠ (TX3 b).2.1 := by decide +kernel
theorem tyX3_ok : ∀ k, k < 13 → parseFieldDescriptor (TX3 k).2.2.1 = some (tyX3 k) := by decide +kernel
abbrev cX3_init : ByteArray := prog_5_method_1_code
def yX3_init : MethodName := ⟨RX3, "<init>", "()V"⟩
def RX4 : String := "GlassHouse$Houses"
def TX4 : u_T := fun k => match k with
  | 0 => ("GlassHouse$Houses", "tables", "LGlassHouse$Tables;", true)
  | 1 => ("GlassHouse$Houses", "probes", "[[I", true)
  | 2 => ("GlassHouse$Houses", "readings", "[J", true)
  | 3 => ("GlassHouse$Houses", "reals", "[D", true)
  | 4 => ("GlassHouse$Houses", "before", "[J", true)
  | 5 => ("GlassHouse$Houses", "values", "[J", true)
  | 6 => ("GlassHouse$Houses", "ordered", "[J", true)
  | 7 => ("GlassHouse$Houses", "part", "D", false)
  | 8 => ("GlassHouse$Houses", "airs", "[[J", true)
  | 9 => ("GlassHouse$Houses", "outside", "[I", true)
  | 10 => ("GlassHouse$Houses", "markMinutes", "[[I", true)
  | 11 => ("GlassHouse$Houses", "markWishes", "[[I", true)
  | 12 => ("GlassHouse$Houses", "marks", "[I", true)
  | _ => ("GlassHouse$Houses", "minuteNow", "I", false)
def tyX4 : Nat → FieldType := fun k => match k with
  | 0 => .object "GlassHouse$Tables"
  | 1 => .array (.array .int)
  | 2 => .array .long
  | 3 => .array .double
  | 4 => .array .long
  | 5 => .array .long
  | 6 => .array .long
  | 7 => .double
  | 8 => .array (.array .long)
  | 9 => .array .int
  | 10 => .array (.array .int)
  | 11 => .array (.array .int)
  | 12 => .array .int
  | _ => .int
abbrev wsX40 : List Cond := u_ws RX4 TX4 14
theorem nmX4 : ∀ a, a < 14 → ∀ b, b < 14 → a ≠ b → (TX4 a).2.1 ≠ (TX4 b).2.1 := by decide +kernel
theorem tyX4_ok : ∀ k, k < 14 → parseFieldDescriptor (TX4 k).2.2.1 = some (tyX4 k) := by decide +kernel
abbrev cX4_init : ByteArray := prog_6_method_1_code
def yX4_init : MethodName := ⟨RX4, "<init>", "()V"⟩
abbrev cX4_takeReading : ByteArray := prog_6_method_2_code
def yX4_takeReading : MethodName := ⟨RX4, "takeReading", "(IJ)V"⟩
abbrev cX4_newWeather : ByteArray := prog_6_method_3_code
def yX4_newWeather : MethodName := ⟨RX4, "newWeather", "(II)I"⟩
abbrev cX4_passMinute : ByteArray := prog_6_method_4_code
def yX4_passMinute : MethodName := ⟨RX4, "passMinute", "()V"⟩
abbrev cX4_markAdded : ByteArray := prog_6_method_5_code
def yX4_markAdded : MethodName := ⟨RX4, "markAdded", "(III)I"⟩
abbrev cX4_marksGone : ByteArray := prog_6_method_6_code
def yX4_marksGone : MethodName := ⟨RX4, "marksGone", "(I)I"⟩
abbrev cX4_hasWish : ByteArray := prog_6_method_7_code
def yX4_hasWish : MethodName := ⟨RX4, "hasWish", "(I)Z"⟩
abbrev cX4_wishAt : ByteArray := prog_6_method_8_code
def yX4_wishAt : MethodName := ⟨RX4, "wishAt", "(II)I"⟩
abbrev cX4_vote : ByteArray := prog_6_method_9_code
def yX4_vote : MethodName := ⟨RX4, "vote", "(I)V"⟩
abbrev cX4_countSame : ByteArray := prog_6_method_10_code
def yX4_countSame : MethodName := ⟨RX4, "countSame", "(I)Z"⟩
abbrev cX4_manyReading : ByteArray := prog_6_method_11_code
def yX4_manyReading : MethodName := ⟨RX4, "manyReading", "(I)I"⟩
abbrev cX4_middleOf : ByteArray := prog_6_method_12_code
def yX4_middleOf : MethodName := ⟨RX4, "middleOf", "(I)J"⟩
abbrev cX4_valueReal : ByteArray := prog_6_method_13_code
def yX4_valueReal : MethodName := ⟨RX4, "valueReal", "(I)D"⟩
abbrev cX4_countOff : ByteArray := prog_6_method_14_code
def yX4_countOff : MethodName := ⟨RX4, "countOff", "(IZJD)V"⟩
abbrev cX4_judge : ByteArray := prog_6_method_15_code
def yX4_judge : MethodName := ⟨RX4, "judge", "(IZ)V"⟩
abbrev cX4_sendTo : ByteArray := prog_6_method_16_code
def yX4_sendTo : MethodName := ⟨RX4, "sendTo", "(III)V"⟩
abbrev cX4_bounded : ByteArray := prog_6_method_17_code
def yX4_bounded : MethodName := ⟨RX4, "bounded", "(JJJ)J"⟩
abbrev cX4_towards : ByteArray := prog_6_method_18_code
def yX4_towards : MethodName := ⟨RX4, "towards", "(JJ)J"⟩
abbrev cX4_steer : ByteArray := prog_6_method_19_code
def yX4_steer : MethodName := ⟨RX4, "steer", "(I)V"⟩
abbrev cX4_wantedMove : ByteArray := prog_6_method_20_code
def yX4_wantedMove : MethodName := ⟨RX4, "wantedMove", "(I)J"⟩
abbrev cX4_moveBy : ByteArray := prog_6_method_21_code
def yX4_moveBy : MethodName := ⟨RX4, "moveBy", "(IJ)V"⟩
abbrev cX4_changeAir : ByteArray := prog_6_method_22_code
def yX4_changeAir : MethodName := ⟨RX4, "changeAir", "(I)V"⟩
abbrev cX4_mostVapour : ByteArray := prog_6_method_23_code
def yX4_mostVapour : MethodName := ⟨RX4, "mostVapour", "(J)J"⟩
def RX5 : String := "GlassHouse$Pests"
def TX5 : u_T := fun k => match k with
  | 0 => ("GlassHouse$Pests", "numbers", "[[J", true)
  | 1 => ("GlassHouse$Pests", "goOn", "[[I", true)
  | 2 => ("GlassHouse$Pests", "stay", "[[I", true)
  | 3 => ("GlassHouse$Pests", "youngOf", "[[I", true)
  | 4 => ("GlassHouse$Pests", "ways", "[J", true)
  | 5 => ("GlassHouse$Pests", "went", "[J", true)
  | 6 => ("GlassHouse$Pests", "rests", "[J", true)
  | 7 => ("GlassHouse$Pests", "sums", "[J", true)
  | 8 => ("GlassHouse$Pests", "days", "I", false)
  | _ => ("GlassHouse$Pests", "waiting", "I", false)
def tyX5 : Nat → FieldType := fun k => match k with
  | 0 => .array (.array .long)
  | 1 => .array (.array .int)
  | 2 => .array (.array .int)
  | 3 => .array (.array .int)
  | 4 => .array .long
  | 5 => .array .long
  | 6 => .array .long
  | 7 => .array .long
  | 8 => .int
  | _ => .int
abbrev wsX50 : List Cond := u_ws RX5 TX5 10
theorem nmX5 : ∀ a, a < 10 → ∀ b, b < 10 → a ≠ b → (TX5 a).2.1 ≠ (TX5 b).2.1 := by decide +kernel
theorem tyX5_ok : ∀ k, k < 10 → parseFieldDescriptor (TX5 k).2.2.1 = some (tyX5 k) := by decide +kernel
abbrev cX5_init : ByteArray := prog_7_method_1_code
def yX5_init : MethodName := ⟨RX5, "<init>", "()V"⟩
abbrev cX5_setParts : ByteArray := prog_7_method_2_code
def yX5_setParts : MethodName := ⟨RX5, "setParts", "(IIIII)V"⟩
abbrev cX5_lessen : ByteArray := prog_7_method_3_code
def yX5_lessen : MethodName := ⟨RX5, "lessen", "(I)V"⟩
abbrev cX5_passDay : ByteArray := prog_7_method_4_code
def yX5_passDay : MethodName := ⟨RX5, "passDay", "()V"⟩
abbrev cX5_dayOf : ByteArray := prog_7_method_5_code
def yX5_dayOf : MethodName := ⟨RX5, "dayOf", "(I)V"⟩
def RX6 : String := "GlassHouse$Plans"
def TX6 : u_T := fun k => match k with
  | 0 => ("GlassHouse$Plans", "lengths", "[I", true)
  | 1 => ("GlassHouse$Plans", "ops", "[I", true)
  | 2 => ("GlassHouse$Plans", "as", "[I", true)
  | 3 => ("GlassHouse$Plans", "bs", "[I", true)
  | 4 => ("GlassHouse$Plans", "cs", "[I", true)
  | 5 => ("GlassHouse$Plans", "ends", "[I", true)
  | _ => ("GlassHouse$Plans", "opens", "[I", true)
def tyX6 : Nat → FieldType := fun k => match k with
  | 0 => .array .int
  | 1 => .array .int
  | 2 => .array .int
  | 3 => .array .int
  | 4 => .array .int
  | 5 => .array .int
  | _ => .array .int
abbrev wsX60 : List Cond := u_ws RX6 TX6 7
theorem nmX6 : ∀ a, a < 7 → ∀ b, b < 7 → a ≠ b → (TX6 a).2.1 ≠ (TX6 b).2.1 := by decide +kernel
theorem tyX6_ok : ∀ k, k < 7 → parseFieldDescriptor (TX6 k).2.2.1 = some (tyX6 k) := by decide +kernel
abbrev cX6_init : ByteArray := prog_8_method_1_code
def yX6_init : MethodName := ⟨RX6, "<init>", "()V"⟩
abbrev cX6_added : ByteArray := prog_8_method_2_code
def yX6_added : MethodName := ⟨RX6, "added", "(IIIII)I"⟩
abbrev cX6_emptied : ByteArray := prog_8_method_3_code
def yX6_emptied : MethodName := ⟨RX6, "emptied", "(I)I"⟩
abbrev cX6_stepsInAll : ByteArray := prog_8_method_4_code
def yX6_stepsInAll : MethodName := ⟨RX6, "stepsInAll", "()I"⟩
abbrev cX6_lengthOf : ByteArray := prog_8_method_5_code
def yX6_lengthOf : MethodName := ⟨RX6, "lengthOf", "(I)I"⟩
abbrev cX6_isPlace : ByteArray := prog_8_method_6_code
def yX6_isPlace : MethodName := ⟨RX6, "isPlace", "(II)Z"⟩
abbrev cX6_opAt : ByteArray := prog_8_method_7_code
def yX6_opAt : MethodName := ⟨RX6, "opAt", "(II)I"⟩
abbrev cX6_aAt : ByteArray := prog_8_method_8_code
def yX6_aAt : MethodName := ⟨RX6, "aAt", "(II)I"⟩
abbrev cX6_bAt : ByteArray := prog_8_method_9_code
def yX6_bAt : MethodName := ⟨RX6, "bAt", "(II)I"⟩
abbrev cX6_cAt : ByteArray := prog_8_method_10_code
def yX6_cAt : MethodName := ⟨RX6, "cAt", "(II)I"⟩
abbrev cX6_endAt : ByteArray := prog_8_method_11_code
def yX6_endAt : MethodName := ⟨RX6, "endAt", "(II)I"⟩
abbrev cX6_firstWrong : ByteArray := prog_8_method_12_code
def yX6_firstWrong : MethodName := ⟨RX6, "firstWrong", "(I)I"⟩
def RX7 : String := "GlassHouse$Runner"
def TX7 : u_T := fun k => match k with
  | 0 => ("GlassHouse$Runner", "bins", "[LGlassHouse$Thing;", true)
  | 1 => ("GlassHouse$Runner", "asker", "LGlassHouse$Asker;", true)
  | 2 => ("GlassHouse$Runner", "plans", "LGlassHouse$Plans;", true)
  | 3 => ("GlassHouse$Runner", "stores", "LGlassHouse$Stores;", true)
  | 4 => ("GlassHouse$Runner", "frames", "[LGlassHouse$Frame;", true)
  | 5 => ("GlassHouse$Runner", "out", "[I", true)
  | 6 => ("GlassHouse$Runner", "depth", "I", false)
  | 7 => ("GlassHouse$Runner", "at", "I", false)
  | 8 => ("GlassHouse$Runner", "dos", "I", false)
  | 9 => ("GlassHouse$Runner", "steps", "I", false)
  | 10 => ("GlassHouse$Runner", "catches", "I", false)
  | 11 => ("GlassHouse$Runner", "lasts", "I", false)
  | 12 => ("GlassHouse$Runner", "heldMost", "I", false)
  | _ => ("GlassHouse$Runner", "arisen", "I", false)
def tyX7 : Nat → FieldType := fun k => match k with
  | 0 => .array (.object "GlassHouse$Thing")
  | 1 => .object "GlassHouse$Asker"
  | 2 => .object "GlassHouse$Plans"
  | 3 => .object "GlassHouse$Stores"
  | 4 => .array (.object "GlassHouse$Frame")
  | 5 => .array .int
  | 6 => .int
  | 7 => .int
  | 8 => .int
  | 9 => .int
  | 10 => .int
  | 11 => .int
  | 12 => .int
  | _ => .int
abbrev wsX70 : List Cond := u_ws RX7 TX7 14
theorem nmX7 : ∀ a, a < 14 → ∀ b, b < 14 → a ≠ b → (TX7 a).2.1 ≠ (TX7 b).2.1 := by decide +kernel
theorem tyX7_ok : ∀ k, k < 14 → parseFieldDescriptor (TX7 k).2.2.1 = some (tyX7 k) := by decide +kernel
abbrev cX7_init : ByteArray := prog_9_method_1_code
def yX7_init : MethodName := ⟨RX7, "<init>", "()V"⟩
abbrev cX7_wholeRun : ByteArray := prog_9_method_2_code
def yX7_wholeRun : MethodName := ⟨RX7, "wholeRun", "(I)I"⟩
abbrev cX7_faultOut : ByteArray := prog_9_method_3_code
def yX7_faultOut : MethodName := ⟨RX7, "faultOut", "()I"⟩
abbrev cX7_toldOf : ByteArray := prog_9_method_4_code
def yX7_toldOf : MethodName := ⟨RX7, "toldOf", "(I)I"⟩
abbrev cX7_top : ByteArray := prog_9_method_5_code
def yX7_top : MethodName := ⟨RX7, "top", "()LGlassHouse$Frame;"⟩
abbrev cX7_newTop : ByteArray := prog_9_method_6_code
def yX7_newTop : MethodName := ⟨RX7, "newTop", "()LGlassHouse$Frame;"⟩
abbrev cX7_enterPlan : ByteArray := prog_9_method_7_code
def yX7_enterPlan : MethodName := ⟨RX7, "enterPlan", "(II)V"⟩
abbrev cX7_enterBody : ByteArray := prog_9_method_8_code
def yX7_enterBody : MethodName := ⟨RX7, "enterBody", "(III)V"⟩
abbrev cX7_counted : ByteArray := prog_9_method_9_code
def yX7_counted : MethodName := ⟨RX7, "counted", "()Z"⟩
abbrev cX7_arise : ByteArray := prog_9_method_10_code
def yX7_arise : MethodName := ⟨RX7, "arise", "(II)V"⟩
abbrev cX7_stepBegins : ByteArray := prog_9_method_11_code
def yX7_stepBegins : MethodName := ⟨RX7, "stepBegins", "(LGlassHouse$Frame;)Z"⟩
abbrev cX7_firstNumberFits : ByteArray := prog_9_method_12_code
def yX7_firstNumberFits : MethodName := ⟨RX7, "firstNumberFits", "(II)Z"⟩
abbrev cX7_perform : ByteArray := prog_9_method_13_code
def yX7_perform : MethodName := ⟨RX7, "perform", "(III)V"⟩
abbrev cX7_divideStock : ByteArray := prog_9_method_14_code
def yX7_divideStock : MethodName := ⟨RX7, "divideStock", "(II)V"⟩
abbrev cX7_layCell : ByteArray := prog_9_method_15_code
def yX7_layCell : MethodName := ⟨RX7, "layCell", "(III)V"⟩
abbrev cX7_readCell : ByteArray := prog_9_method_16_code
def yX7_readCell : MethodName := ⟨RX7, "readCell", "(III)V"⟩
abbrev cX7_writeCard : ByteArray := prog_9_method_17_code
def yX7_writeCard : MethodName := ⟨RX7, "writeCard", "(II)V"⟩
abbrev cX7_askPlant : ByteArray := prog_9_method_18_code
def yX7_askPlant : MethodName := ⟨RX7, "askPlant", "(III)V"⟩
abbrev cX7_doPlan : ByteArray := prog_9_method_19_code
def yX7_doPlan : MethodName := ⟨RX7, "doPlan", "(I)V"⟩
abbrev cX7_beginBody : ByteArray := prog_9_method_20_code
def yX7_beginBody : MethodName := ⟨RX7, "beginBody", "(IIII)V"⟩
abbrev cX7_leave : ByteArray := prog_9_method_21_code
def yX7_leave : MethodName := ⟨RX7, "leave", "(LGlassHouse$Frame;)V"⟩
abbrev cX7_undoFaulted : ByteArray := prog_9_method_22_code
def yX7_undoFaulted : MethodName := ⟨RX7, "undoFaulted", "(LGlassHouse$Frame;)V"⟩
abbrev cX7_lookAgain : ByteArray := prog_9_method_23_code
def yX7_lookAgain : MethodName := ⟨RX7, "lookAgain", "(I)V"⟩
abbrev cX7_goesAgain : ByteArray := prog_9_method_24_code
def yX7_goesAgain : MethodName := ⟨RX7, "goesAgain", "(LGlassHouse$Frame;)Z"⟩
abbrev cX7_goesOnTrying : ByteArray := prog_9_method_25_code
def yX7_goesOnTrying : MethodName := ⟨RX7, "goesOnTrying", "(LGlassHouse$Frame;)Z"⟩
abbrev cX7_meets : ByteArray := prog_9_method_26_code
def yX7_meets : MethodName := ⟨RX7, "meets", "(LGlassHouse$Frame;)Z"⟩
abbrev cX7_enterPart : ByteArray := prog_9_method_27_code
def yX7_enterPart : MethodName := ⟨RX7, "enterPart", "(LGlassHouse$Frame;II)V"⟩
abbrev cX7_entersLast : ByteArray := prog_9_method_28_code
def yX7_entersLast : MethodName := ⟨RX7, "entersLast", "(LGlassHouse$Frame;)Z"⟩
abbrev cX7_settleLast : ByteArray := prog_9_method_29_code
def yX7_settleLast : MethodName := ⟨RX7, "settleLast", "(LGlassHouse$Frame;)V"⟩
def RX8 : String := "GlassHouse$Stores"
def TX8 : u_T := fun k => match k with
  | 0 => ("GlassHouse$Stores", "amounts", "[J", true)
  | 1 => ("GlassHouse$Stores", "valvePlaces", "[I", true)
  | 2 => ("GlassHouse$Stores", "valveHolds", "[I", true)
  | 3 => ("GlassHouse$Stores", "owners", "[LGlassHouse$Thing;", true)
  | 4 => ("GlassHouse$Stores", "indexes", "[I", true)
  | 5 => ("GlassHouse$Stores", "olds", "[J", true)
  | _ => ("GlassHouse$Stores", "changes", "I", false)
def tyX8 : Nat → FieldType := fun k => match k with
  | 0 => .array .long
  | 1 => .array .int
  | 2 => .array .int
  | 3 => .array (.object "GlassHouse$Thing")
  | 4 => .array .int
  | 5 => .array .long
  | _ => .int
abbrev wsX80 : List Cond := u_ws RX8 TX8 7
theorem nmX8 : ∀ a, a < 7 → ∀ b, b < 7 → a ≠ b → (TX8 a).2.1 ≠ (TX8 b).2.1 := by decide +kernel
theorem tyX8_ok : ∀ k, k < 7 → parseFieldDescriptor (TX8 k).2.2.1 = some (tyX8 k) := by decide +kernel
abbrev cX8_init : ByteArray := prog_10_method_1_code
def yX8_init : MethodName := ⟨RX8, "<init>", "()V"⟩
abbrev cX8_forgetChanges : ByteArray := prog_10_method_2_code
def yX8_forgetChanges : MethodName := ⟨RX8, "forgetChanges", "()V"⟩
abbrev cX8_changesSoFar : ByteArray := prog_10_method_3_code
def yX8_changesSoFar : MethodName := ⟨RX8, "changesSoFar", "()I"⟩
abbrev cX8_changeStock : ByteArray := prog_10_method_4_code
def yX8_changeStock : MethodName := ⟨RX8, "changeStock", "(IJ)V"⟩
abbrev cX8_changeCell : ByteArray := prog_10_method_5_code
def yX8_changeCell : MethodName := ⟨RX8, "changeCell", "(LGlassHouse$Thing;IJ)V"⟩
abbrev cX8_noteChange : ByteArray := prog_10_method_6_code
def yX8_noteChange : MethodName := ⟨RX8, "noteChange", "(LGlassHouse$Thing;IJ)V"⟩
abbrev cX8_undoTo : ByteArray := prog_10_method_7_code
def yX8_undoTo : MethodName := ⟨RX8, "undoTo", "(I)V"⟩
abbrev cX8_heldInAll : ByteArray := prog_10_method_8_code
def yX8_heldInAll : MethodName := ⟨RX8, "heldInAll", "()I"⟩
def RX9 : String := "GlassHouse$Tables"
def TX9 : u_T := fun k => match k with
  | 0 => ("GlassHouse$Tables", "xs", "[[I", true)
  | 1 => ("GlassHouse$Tables", "ys", "[[I", true)
  | 2 => ("GlassHouse$Tables", "lines", "[I", true)
  | 3 => ("GlassHouse$Tables", "under", "[I", true)
  | 4 => ("GlassHouse$Tables", "offsets", "[I", true)
  | 5 => ("GlassHouse$Tables", "begun", "[Z", true)
  | 6 => ("GlassHouse$Tables", "finished", "[Z", true)
  | 7 => ("GlassHouse$Tables", "order", "[I", true)
  | _ => ("GlassHouse$Tables", "laidMany", "I", false)
def tyX9 : Nat → FieldType := fun k => match k with
  | 0 => .array (.array .int)
  | 1 => .array (.array .int)
  | 2 => .array .int
  | 3 => .array .int
  | 4 => .array .int
  | 5 => .array .boolean
  | 6 => .array .boolean
  | 7 => .array .int
  | _ => .int
abbrev wsX90 : List Cond := u_ws RX9 TX9 9
theorem nmX9 : ∀ a, a < 9 → ∀ b, b < 9 → a ≠ b → (TX9 a).2.1 ≠ (TX9 b).2.1 := by decide +kernel
theorem tyX9_ok : ∀ k, k < 9 → parseFieldDescriptor (TX9 k).2.2.1 = some (tyX9 k) := by decide +kernel
abbrev cX9_init : ByteArray := prog_11_method_1_code
def yX9_init : MethodName := ⟨RX9, "<init>", "()V"⟩
abbrev cX9_lineAdded : ByteArray := prog_11_method_2_code
def yX9_lineAdded : MethodName := ⟨RX9, "lineAdded", "(III)I"⟩
abbrev cX9_rested : ByteArray := prog_11_method_3_code
def yX9_rested : MethodName := ⟨RX9, "rested", "(II)I"⟩
abbrev cX9_hasLines : ByteArray := prog_11_method_4_code
def yX9_hasLines : MethodName := ⟨RX9, "hasLines", "(I)Z"⟩
abbrev cX9_laidAt : ByteArray := prog_11_method_5_code
def yX9_laidAt : MethodName := ⟨RX9, "laidAt", "(I)I"⟩
abbrev cX9_valueAt : ByteArray := prog_11_method_6_code
def yX9_valueAt : MethodName := ⟨RX9, "valueAt", "(II)I"⟩
abbrev cX9_layDown : ByteArray := prog_11_method_7_code
def yX9_layDown : MethodName := ⟨RX9, "layDown", "(II)V"⟩
abbrev cX9_lineAt : ByteArray := prog_11_method_8_code
def yX9_lineAt : MethodName := ⟨RX9, "lineAt", "(II)I"⟩
def RX10 : String := "GlassHouse$Thing"
def TX10 : u_T := fun k => match k with
  | 0 => ("GlassHouse$Thing", "form", "I", true)
  | 1 => ("GlassHouse$Thing", "cells", "[J", true)
  | 2 => ("GlassHouse$Thing", "places", "[LGlassHouse$Thing;", true)
  | 3 => ("GlassHouse$Thing", "kind", "I", false)
  | 4 => ("GlassHouse$Thing", "number", "I", false)
  | 5 => ("GlassHouse$Thing", "a", "I", false)
  | 6 => ("GlassHouse$Thing", "b", "I", false)
  | 7 => ("GlassHouse$Thing", "depth", "I", false)
  | _ => ("GlassHouse$Thing", "seen", "I", false)
def tyX10 : Nat → FieldType := fun k => match k with
  | 0 => .int
  | 1 => .array .long
  | 2 => .array (.object "GlassHouse$Thing")
  | 3 => .int
  | 4 => .int
  | 5 => .int
  | 6 => .int
  | 7 => .int
  | _ => .int
abbrev wsX100 : List Cond := u_ws RX10 TX10 9
theorem nmX10 : ∀ a, a < 9 → ∀ b, b < 9 → a ≠ b → (TX10 a).2.1 ≠ (TX10 b).2.1 := by decide +kernel
theorem tyX10_ok : ∀ k, k < 9 → parseFieldDescriptor (TX10 k).2.2.1 = some (tyX10 k) := by decide +kernel
abbrev cX10_init : ByteArray := prog_12_method_1_code
def yX10_init : MethodName := ⟨RX10, "<init>", "(I[J[LGlassHouse$Thing;)V"⟩
abbrev cX10_length : ByteArray := prog_12_method_2_code
def yX10_length : MethodName := ⟨RX10, "length", "()I"⟩
abbrev cX10_emptyPlaces : ByteArray := prog_12_method_3_code
def yX10_emptyPlaces : MethodName := ⟨RX10, "emptyPlaces", "()I"⟩
def RX11 : String := "GlassHouse"
def TX11 : u_T := fun k => match k with
  | 0 => ("GlassHouse", "runner", "LGlassHouse$Runner;", true)
  | 1 => ("GlassHouse", "bins", "[LGlassHouse$Thing;", true)
  | 2 => ("GlassHouse", "asker", "LGlassHouse$Asker;", true)
  | 3 => ("GlassHouse", "plans", "LGlassHouse$Plans;", true)
  | 4 => ("GlassHouse", "stores", "LGlassHouse$Stores;", true)
  | 5 => ("GlassHouse", "houses", "LGlassHouse$Houses;", true)
  | 6 => ("GlassHouse", "tables", "LGlassHouse$Tables;", true)
  | 7 => ("GlassHouse", "feeds", "LGlassHouse$Feeds;", true)
  | 8 => ("GlassHouse", "pests", "LGlassHouse$Pests;", true)
  | 9 => ("GlassHouse", "books", "LGlassHouse$Books;", true)
  | 10 => ("GlassHouse", "scratch", "[J", true)
  | 11 => ("GlassHouse", "weights", "[J", true)
  | 12 => ("GlassHouse", "thingsMade", "I", false)
  | 13 => ("GlassHouse", "faultsEver", "I", false)
  | 14 => ("GlassHouse", "latestFault", "I", false)
  | 15 => ("GlassHouse", "plantsMade", "I", false)
  | 16 => ("GlassHouse", "cardsMade", "I", false)
  | 17 => ("GlassHouse", "cameLatest", "I", false)
  | 18 => ("GlassHouse", "answerTold", "I", false)
  | _ => ("GlassHouse", "walks", "I", false)
def tyX11 : Nat → FieldType := fun k => match k with
  | 0 => .object "GlassHouse$Runner"
  | 1 => .array (.object "GlassHouse$Thing")
  | 2 => .object "GlassHouse$Asker"
  | 3 => .object "GlassHouse$Plans"
  | 4 => .object "GlassHouse$Stores"
  | 5 => .object "GlassHouse$Houses"
  | 6 => .object "GlassHouse$Tables"
  | 7 => .object "GlassHouse$Feeds"
  | 8 => .object "GlassHouse$Pests"
  | 9 => .object "GlassHouse$Books"
  | 10 => .array .long
  | 11 => .array .long
  | 12 => .int
  | 13 => .int
  | 14 => .int
  | 15 => .int
  | 16 => .int
  | 17 => .int
  | 18 => .int
  | _ => .int
abbrev wsX110 : List Cond := u_ws RX11 TX11 20
theorem nmX11 : ∀ a, a < 20 → ∀ b, b < 20 → a ≠ b → (TX11 a).2.1 ≠ (TX11 b).2.1 := by decide +kernel
theorem tyX11_ok : ∀ k, k < 20 → parseFieldDescriptor (TX11 k).2.2.1 = some (tyX11 k) := by decide +kernel
abbrev cX11_init : ByteArray := prog_1_method_1_code
def yX11_init : MethodName := ⟨RX11, "<init>", "()V"⟩
abbrev cX11_row : ByteArray := prog_1_method_2_code
def yX11_row : MethodName := ⟨RX11, "row", "(III)I"⟩
abbrev cX11_grid : ByteArray := prog_1_method_3_code
def yX11_grid : MethodName := ⟨RX11, "grid", "(IIIIZ)I"⟩
abbrev cX11_storeys : ByteArray := prog_1_method_4_code
def yX11_storeys : MethodName := ⟨RX11, "storeys", "(II)I"⟩
abbrev cX11_share : ByteArray := prog_1_method_5_code
def yX11_share : MethodName := ⟨RX11, "share", "(II)I"⟩
abbrev cX11_form : ByteArray := prog_1_method_6_code
def yX11_form : MethodName := ⟨RX11, "form", "(I)I"⟩
abbrev cX11_is : ByteArray := prog_1_method_7_code
def yX11_is : MethodName := ⟨RX11, "is", "(II)I"⟩
abbrev cX11_get : ByteArray := prog_1_method_8_code
def yX11_get : MethodName := ⟨RX11, "get", "(III)J"⟩
abbrev cX11_put : ByteArray := prog_1_method_9_code
def yX11_put : MethodName := ⟨RX11, "put", "(IIIJ)I"⟩
abbrev cX11_bed : ByteArray := prog_1_method_10_code
def yX11_bed : MethodName := ⟨RX11, "bed", "(IIII)J"⟩
abbrev cX11_setBed : ByteArray := prog_1_method_11_code
def yX11_setBed : MethodName := ⟨RX11, "setBed", "(IIIIJ)I"⟩
abbrev cX11_countUp : ByteArray := prog_1_method_12_code
def yX11_countUp : MethodName := ⟨RX11, "countUp", "(IIIIZ)I"⟩
abbrev cX11_set : ByteArray := prog_1_method_13_code
def yX11_set : MethodName := ⟨RX11, "set", "(III)I"⟩
abbrev cX11_lift : ByteArray := prog_1_method_14_code
def yX11_lift : MethodName := ⟨RX11, "lift", "(III)I"⟩
abbrev cX11_liftAs : ByteArray := prog_1_method_15_code
def yX11_liftAs : MethodName := ⟨RX11, "liftAs", "(IIII)I"⟩
abbrev cX11_shift : ByteArray := prog_1_method_16_code
def yX11_shift : MethodName := ⟨RX11, "shift", "(IIIII)I"⟩
abbrev cX11_came : ByteArray := prog_1_method_17_code
def yX11_came : MethodName := ⟨RX11, "came", "()I"⟩
abbrev cX11_copy : ByteArray := prog_1_method_18_code
def yX11_copy : MethodName := ⟨RX11, "copy", "(IIZ)I"⟩
abbrev cX11_alike : ByteArray := prog_1_method_19_code
def yX11_alike : MethodName := ⟨RX11, "alike", "(II)I"⟩
abbrev cX11_size : ByteArray := prog_1_method_20_code
def yX11_size : MethodName := ⟨RX11, "size", "(II)I"⟩
abbrev cX11_plant : ByteArray := prog_1_method_21_code
def yX11_plant : MethodName := ⟨RX11, "plant", "(IIIIII)I"⟩
abbrev cX11_tray : ByteArray := prog_1_method_22_code
def yX11_tray : MethodName := ⟨RX11, "tray", "(III)I"⟩
abbrev cX11_ask : ByteArray := prog_1_method_23_code
def yX11_ask : MethodName := ⟨RX11, "ask", "(II)I"⟩
abbrev cX11_answer : ByteArray := prog_1_method_24_code
def yX11_answer : MethodName := ⟨RX11, "answer", "()I"⟩
abbrev cX11_trace : ByteArray := prog_1_method_25_code
def yX11_trace : MethodName := ⟨RX11, "trace", "(I)I"⟩
abbrev cX11_card : ByteArray := prog_1_method_26_code
def yX11_card : MethodName := ⟨RX11, "card", "(I)I"⟩
abbrev cX11_field : ByteArray := prog_1_method_27_code
def yX11_field : MethodName := ⟨RX11, "field", "(II)J"⟩
abbrev cX11_setField : ByteArray := prog_1_method_28_code
def yX11_setField : MethodName := ⟨RX11, "setField", "(IIJ)I"⟩
abbrev cX11_lead : ByteArray := prog_1_method_29_code
def yX11_lead : MethodName := ⟨RX11, "lead", "(III)I"⟩
abbrev cX11_follow : ByteArray := prog_1_method_30_code
def yX11_follow : MethodName := ⟨RX11, "follow", "(III)I"⟩
abbrev cX11_led : ByteArray := prog_1_method_31_code
def yX11_led : MethodName := ⟨RX11, "led", "(II)I"⟩
abbrev cX11_step : ByteArray := prog_1_method_32_code
def yX11_step : MethodName := ⟨RX11, "step", "(IIIII)I"⟩
abbrev cX11_drop : ByteArray := prog_1_method_33_code
def yX11_drop : MethodName := ⟨RX11, "drop", "(I)I"⟩
abbrev cX11_formed : ByteArray := prog_1_method_34_code
def yX11_formed : MethodName := ⟨RX11, "formed", "(I)I"⟩
abbrev cX11_run : ByteArray := prog_1_method_35_code
def yX11_run : MethodName := ⟨RX11, "run", "(I)I"⟩
abbrev cX11_ran : ByteArray := prog_1_method_36_code
def yX11_ran : MethodName := ⟨RX11, "ran", "(I)I"⟩
abbrev cX11_stock : ByteArray := prog_1_method_37_code
def yX11_stock : MethodName := ⟨RX11, "stock", "(I)J"⟩
abbrev cX11_setStock : ByteArray := prog_1_method_38_code
def yX11_setStock : MethodName := ⟨RX11, "setStock", "(IJ)I"⟩
abbrev cX11_valve : ByteArray := prog_1_method_39_code
def yX11_valve : MethodName := ⟨RX11, "valve", "(II)I"⟩
abbrev cX11_line : ByteArray := prog_1_method_40_code
def yX11_line : MethodName := ⟨RX11, "line", "(III)I"⟩
abbrev cX11_rest : ByteArray := prog_1_method_41_code
def yX11_rest : MethodName := ⟨RX11, "rest", "(II)I"⟩
abbrev cX11_value : ByteArray := prog_1_method_42_code
def yX11_value : MethodName := ⟨RX11, "value", "(II)I"⟩
abbrev cX11_laid : ByteArray := prog_1_method_43_code
def yX11_laid : MethodName := ⟨RX11, "laid", "(I)I"⟩
abbrev cX11_read : ByteArray := prog_1_method_44_code
def yX11_read : MethodName := ⟨RX11, "read", "(IJ)I"⟩
abbrev cX11_part : ByteArray := prog_1_method_45_code
def yX11_part : MethodName := ⟨RX11, "part", "(J)I"⟩
abbrev cX11_probe : ByteArray := prog_1_method_46_code
def yX11_probe : MethodName := ⟨RX11, "probe", "(II)I"⟩
abbrev cX11_voted : ByteArray := prog_1_method_47_code
def yX11_voted : MethodName := ⟨RX11, "voted", "(I)J"⟩
abbrev cX11_weather : ByteArray := prog_1_method_48_code
def yX11_weather : MethodName := ⟨RX11, "weather", "(II)I"⟩
abbrev cX11_mark : ByteArray := prog_1_method_49_code
def yX11_mark : MethodName := ⟨RX11, "mark", "(III)I"⟩
abbrev cX11_unmark : ByteArray := prog_1_method_50_code
def yX11_unmark : MethodName := ⟨RX11, "unmark", "(I)I"⟩
abbrev cX11_wish : ByteArray := prog_1_method_51_code
def yX11_wish : MethodName := ⟨RX11, "wish", "(II)I"⟩
abbrev cX11_minute : ByteArray := prog_1_method_52_code
def yX11_minute : MethodName := ⟨RX11, "minute", "(I)I"⟩
abbrev cX11_air : ByteArray := prog_1_method_53_code
def yX11_air : MethodName := ⟨RX11, "air", "(II)J"⟩
abbrev cX11_shares : ByteArray := prog_1_method_54_code
def yX11_shares : MethodName := ⟨RX11, "shares", "(III)I"⟩
abbrev cX11_quotient : ByteArray := prog_1_method_55_code
def yX11_quotient : MethodName := ⟨RX11, "quotient", "(IJJI)J"⟩
abbrev cX11_compare : ByteArray := prog_1_method_56_code
def yX11_compare : MethodName := ⟨RX11, "compare", "(IIIII)I"⟩
abbrev cX11_real : ByteArray := prog_1_method_57_code
def yX11_real : MethodName := ⟨RX11, "real", "(III)J"⟩
abbrev cX11_wholeMean : ByteArray := prog_1_method_58_code
def yX11_wholeMean : MethodName := ⟨RX11, "wholeMean", "(I)I"⟩
abbrev cX11_salt : ByteArray := prog_1_method_59_code
def yX11_salt : MethodName := ⟨RX11, "salt", "(III)I"⟩
abbrev cX11_work : ByteArray := prog_1_method_60_code
def yX11_work : MethodName := ⟨RX11, "work", "()I"⟩
abbrev cX11_worked : ByteArray := prog_1_method_61_code
def yX11_worked : MethodName := ⟨RX11, "worked", "(II)J"⟩
abbrev cX11_count : ByteArray := prog_1_method_62_code
def yX11_count : MethodName := ⟨RX11, "count", "(III)I"⟩
abbrev cX11_parts : ByteArray := prog_1_method_63_code
def yX11_parts : MethodName := ⟨RX11, "parts", "(IIIII)I"⟩
abbrev cX11_day : ByteArray := prog_1_method_64_code
def yX11_day : MethodName := ⟨RX11, "day", "(I)I"⟩
abbrev cX11_spray : ByteArray := prog_1_method_65_code
def yX11_spray : MethodName := ⟨RX11, "spray", "(I)I"⟩
abbrev cX11_pest : ByteArray := prog_1_method_66_code
def yX11_pest : MethodName := ⟨RX11, "pest", "(II)I"⟩
abbrev cX11_wait1 : ByteArray := prog_1_method_67_code
def yX11_wait1 : MethodName := ⟨RX11, "wait1", "()I"⟩
abbrev cX11_write : ByteArray := prog_1_method_68_code
def yX11_write : MethodName := ⟨RX11, "write", "(I)I"⟩
abbrev cX11_power : ByteArray := prog_1_method_69_code
def yX11_power : MethodName := ⟨RX11, "power", "(I)I"⟩
abbrev cX11_open1 : ByteArray := prog_1_method_70_code
def yX11_open1 : MethodName := ⟨RX11, "open1", "()I"⟩
abbrev cX11_page : ByteArray := prog_1_method_71_code
def yX11_page : MethodName := ⟨RX11, "page", "(II)J"⟩
abbrev cX11_octet : ByteArray := prog_1_method_72_code
def yX11_octet : MethodName := ⟨RX11, "octet", "(II)I"⟩
abbrev cX11_damage : ByteArray := prog_1_method_73_code
def yX11_damage : MethodName := ⟨RX11, "damage", "(III)I"⟩
abbrev cX11_told : ByteArray := prog_1_method_74_code
def yX11_told : MethodName := ⟨RX11, "told", "(I)I"⟩
abbrev cX11_fault : ByteArray := prog_1_method_75_code
def yX11_fault : MethodName := ⟨RX11, "fault", "()I"⟩
abbrev cX11_isBin : ByteArray := prog_1_method_76_code
def yX11_isBin : MethodName := ⟨RX11, "isBin", "(I)Z"⟩
abbrev cX11_isLane : ByteArray := prog_1_method_77_code
def yX11_isLane : MethodName := ⟨RX11, "isLane", "(I)Z"⟩
abbrev cX11_isForm : ByteArray := prog_1_method_78_code
def yX11_isForm : MethodName := ⟨RX11, "isForm", "(I)Z"⟩
abbrev cX11_isGridForm : ByteArray := prog_1_method_79_code
def yX11_isGridForm : MethodName := ⟨RX11, "isGridForm", "(I)Z"⟩
abbrev cX11_isTrayForm : ByteArray := prog_1_method_80_code
def yX11_isTrayForm : MethodName := ⟨RX11, "isTrayForm", "(I)Z"⟩
abbrev cX11_isPlacesForm : ByteArray := prog_1_method_81_code
def yX11_isPlacesForm : MethodName := ⟨RX11, "isPlacesForm", "(I)Z"⟩
abbrev cX11_isPlan : ByteArray := prog_1_method_82_code
def yX11_isPlan : MethodName := ⟨RX11, "isPlan", "(I)Z"⟩
abbrev cX11_isStock : ByteArray := prog_1_method_83_code
def yX11_isStock : MethodName := ⟨RX11, "isStock", "(I)Z"⟩
abbrev cX11_isValve : ByteArray := prog_1_method_84_code
def yX11_isValve : MethodName := ⟨RX11, "isValve", "(I)Z"⟩
abbrev cX11_isTable : ByteArray := prog_1_method_85_code
def yX11_isTable : MethodName := ⟨RX11, "isTable", "(I)Z"⟩
abbrev cX11_isProbe : ByteArray := prog_1_method_86_code
def yX11_isProbe : MethodName := ⟨RX11, "isProbe", "(I)Z"⟩
abbrev cX11_isHouse : ByteArray := prog_1_method_87_code
def yX11_isHouse : MethodName := ⟨RX11, "isHouse", "(I)Z"⟩
abbrev cX11_isPest : ByteArray := prog_1_method_88_code
def yX11_isPest : MethodName := ⟨RX11, "isPest", "(I)Z"⟩
abbrev cX11_isStage : ByteArray := prog_1_method_89_code
def yX11_isStage : MethodName := ⟨RX11, "isStage", "(I)Z"⟩
abbrev cX11_isPart : ByteArray := prog_1_method_90_code
def yX11_isPart : MethodName := ⟨RX11, "isPart", "(I)Z"⟩
abbrev cX11_fail : ByteArray := prog_1_method_91_code
def yX11_fail : MethodName := ⟨RX11, "fail", "(I)I"⟩
abbrev cX11_isFull : ByteArray := prog_1_method_92_code
def yX11_isFull : MethodName := ⟨RX11, "isFull", "()Z"⟩
abbrev cX11_isRow : ByteArray := prog_1_method_93_code
def yX11_isRow : MethodName := ⟨RX11, "isRow", "(LGlassHouse$Thing;)Z"⟩
abbrev cX11_laneOfGrid : ByteArray := prog_1_method_94_code
def yX11_laneOfGrid : MethodName := ⟨RX11, "laneOfGrid", "(I)I"⟩
abbrev cX11_goesFor : ByteArray := prog_1_method_95_code
def yX11_goesFor : MethodName := ⟨RX11, "goesFor", "(LGlassHouse$Thing;I)Z"⟩
abbrev cX11_takenFault : ByteArray := prog_1_method_96_code
def yX11_takenFault : MethodName := ⟨RX11, "takenFault", "(LGlassHouse$Thing;I)I"⟩
abbrev cX11_cellFault : ByteArray := prog_1_method_97_code
def yX11_cellFault : MethodName := ⟨RX11, "cellFault", "(LGlassHouse$Thing;II)I"⟩
abbrev cX11_placeFault : ByteArray := prog_1_method_98_code
def yX11_placeFault : MethodName := ⟨RX11, "placeFault", "(LGlassHouse$Thing;II)I"⟩
abbrev cX11_placesFault : ByteArray := prog_1_method_99_code
def yX11_placesFault : MethodName := ⟨RX11, "placesFault", "(LGlassHouse$Thing;I)I"⟩
abbrev cX11_bayFault : ByteArray := prog_1_method_100_code
def yX11_bayFault : MethodName := ⟨RX11, "bayFault", "(LGlassHouse$Thing;III)I"⟩
abbrev cX11_bayAt : ByteArray := prog_1_method_101_code
def yX11_bayAt : MethodName := ⟨RX11, "bayAt", "(LGlassHouse$Thing;II)LGlassHouse$Thing;"⟩
abbrev cX11_placeOf : ByteArray := prog_1_method_102_code
def yX11_placeOf : MethodName := ⟨RX11, "placeOf", "(LGlassHouse$Thing;I)LGlassHouse$Thing;"⟩
abbrev cX11_depthOf : ByteArray := prog_1_method_103_code
def yX11_depthOf : MethodName := ⟨RX11, "depthOf", "(LGlassHouse$Thing;)I"⟩
abbrev cX11_trayTakes : ByteArray := prog_1_method_104_code
def yX11_trayTakes : MethodName := ⟨RX11, "trayTakes", "(II)Z"⟩
abbrev cX11_thirsts : ByteArray := prog_1_method_105_code
def yX11_thirsts : MethodName := ⟨RX11, "thirsts", "(I)Z"⟩
abbrev cX11_takes : ByteArray := prog_1_method_106_code
def yX11_takes : MethodName := ⟨RX11, "takes", "(ILGlassHouse$Thing;)Z"⟩
abbrev cX11_newRow : ByteArray := prog_1_method_107_code
def yX11_newRow : MethodName := ⟨RX11, "newRow", "(II)LGlassHouse$Thing;"⟩
abbrev cX11_newPlaces : ByteArray := prog_1_method_108_code
def yX11_newPlaces : MethodName := ⟨RX11, "newPlaces", "(II)LGlassHouse$Thing;"⟩
abbrev cX11_newCard : ByteArray := prog_1_method_109_code
def yX11_newCard : MethodName := ⟨RX11, "newCard", "()LGlassHouse$Thing;"⟩
abbrev cX11_intoBin : ByteArray := prog_1_method_110_code
def yX11_intoBin : MethodName := ⟨RX11, "intoBin", "(III)I"⟩
abbrev cX11_copied : ByteArray := prog_1_method_111_code
def yX11_copied : MethodName := ⟨RX11, "copied", "(LGlassHouse$Thing;ZI)LGlassHouse$Thing;"⟩
abbrev cX11_equalThings : ByteArray := prog_1_method_112_code
def yX11_equalThings : MethodName := ⟨RX11, "equalThings", "(LGlassHouse$Thing;LGlassHouse$Thing;I)Z"⟩
abbrev cX11_equalCells : ByteArray := prog_1_method_113_code
def yX11_equalCells : MethodName := ⟨RX11, "equalCells", "(LGlassHouse$Thing;LGlassHouse$Thing;)Z"⟩
abbrev cX11_shiftable : ByteArray := prog_1_method_114_code
def yX11_shiftable : MethodName := ⟨RX11, "shiftable", "(LGlassHouse$Thing;LGlassHouse$Thing;)Z"⟩
abbrev cX11_spanFits : ByteArray := prog_1_method_115_code
def yX11_spanFits : MethodName := ⟨RX11, "spanFits", "(III)Z"⟩
abbrev cX11_leadTaken : ByteArray := prog_1_method_116_code
def yX11_leadTaken : MethodName := ⟨RX11, "leadTaken", "(LGlassHouse$Thing;ILGlassHouse$Thing;I)I"⟩
abbrev cX11_moveCells : ByteArray := prog_1_method_117_code
def yX11_moveCells : MethodName := ⟨RX11, "moveCells", "(LGlassHouse$Thing;ILGlassHouse$Thing;II)V"⟩
abbrev cX11_movePlaces : ByteArray := prog_1_method_118_code
def yX11_movePlaces : MethodName := ⟨RX11, "movePlaces", "(LGlassHouse$Thing;ILGlassHouse$Thing;II)V"⟩
abbrev cX11_cellOf : ByteArray := prog_1_method_119_code
def yX11_cellOf : MethodName := ⟨RX11, "cellOf", "(IJ)J"⟩
abbrev cX11_isNumber : ByteArray := prog_1_method_120_code
def yX11_isNumber : MethodName := ⟨RX11, "isNumber", "(J)Z"⟩
abbrev cX11_doubleBits : ByteArray := prog_1_method_121_code
def yX11_doubleBits : MethodName := ⟨RX11, "doubleBits", "(IJ)J"⟩
abbrev cX11_widened : ByteArray := prog_1_method_122_code
def yX11_widened : MethodName := ⟨RX11, "widened", "(J)J"⟩
abbrev cX11_orderKey : ByteArray := prog_1_method_123_code
def yX11_orderKey : MethodName := ⟨RX11, "orderKey", "(J)J"⟩
abbrev cX11_sortByOrder : ByteArray := prog_1_method_124_code
def yX11_sortByOrder : MethodName := ⟨RX11, "sortByOrder", "([JI)V"⟩
abbrev cX11_flagsOf : ByteArray := prog_1_method_125_code
def yX11_flagsOf : MethodName := ⟨RX11, "flagsOf", "(JJ)I"⟩
abbrev cX11_gatherNumbers : ByteArray := prog_1_method_126_code
def yX11_gatherNumbers : MethodName := ⟨RX11, "gatherNumbers", "(LGlassHouse$Thing;I)I"⟩
abbrev cX11_meanBits : ByteArray := prog_1_method_127_code
def yX11_meanBits : MethodName := ⟨RX11, "meanBits", "(I)J"⟩
abbrev cX11_isEndless : ByteArray := prog_1_method_128_code
def yX11_isEndless : MethodName := ⟨RX11, "isEndless", "(D)Z"⟩
abbrev cX11_scaled : ByteArray := prog_1_method_129_code
def yX11_scaled : MethodName := ⟨RX11, "scaled", "(DI)D"⟩
abbrev cX11_realOf : ByteArray := prog_1_method_130_code
def yX11_realOf : MethodName := ⟨RX11, "realOf", "(J)D"⟩
abbrev cX11_bitsOf : ByteArray := prog_1_method_131_code
def yX11_bitsOf : MethodName := ⟨RX11, "bitsOf", "(D)J"⟩
abbrev cX11_canShare : ByteArray := prog_1_method_132_code
def yX11_canShare : MethodName := ⟨RX11, "canShare", "(LGlassHouse$Thing;)Z"⟩
abbrev cX11_shareOut : ByteArray := prog_1_method_133_code
def yX11_shareOut : MethodName := ⟨RX11, "shareOut", "(J[JI[J[J)V"⟩
def RX12 : String := "GlassHouseModel"
def TX12 : u_T := fun k => match k with
  | 0 => ("GlassHouseModel", "made", "I", false)
  | 1 => ("GlassHouseModel", "faultsEver", "I", false)
  | 2 => ("GlassHouseModel", "lastFault", "I", false)
  | 3 => ("GlassHouseModel", "bin", "[I", true)
  | 4 => ("GlassHouseModel", "forms", "[B", true)
  | 5 => ("GlassHouseModel", "sizes", "[B", true)
  | 6 => ("GlassHouseModel", "start", "[I", true)
  | 7 => ("GlassHouseModel", "cells", "I", false)
  | 8 => ("GlassHouseModel", "cell", "[J", true)
  | 9 => ("GlassHouseModel", "places", "I", false)
  | 10 => ("GlassHouseModel", "place", "[S", true)
  | 11 => ("GlassHouseModel", "number", "[I", true)
  | 12 => ("GlassHouseModel", "kind", "[B", true)
  | 13 => ("GlassHouseModel", "partA", "[I", true)
  | 14 => ("GlassHouseModel", "partB", "[I", true)
  | 15 => ("GlassHouseModel", "left", "[S", true)
  | 16 => ("GlassHouseModel", "right", "[S", true)
  | 17 => ("GlassHouseModel", "depth", "[B", true)
  | 18 => ("GlassHouseModel", "plants", "I", false)
  | 19 => ("GlassHouseModel", "cards", "I", false)
  | 20 => ("GlassHouseModel", "bedAt", "I", false)
  | 21 => ("GlassHouseModel", "taken", "[J", true)
  | 22 => ("GlassHouseModel", "came", "I", false)
  | 23 => ("GlassHouseModel", "trace", "[I", true)
  | 24 => ("GlassHouseModel", "traced", "I", false)
  | 25 => ("GlassHouseModel", "answer", "I", false)
  | 26 => ("GlassHouseModel", "asked", "[I", true)
  | 27 => ("GlassHouseModel", "askStage", "[I", true)
  | 28 => ("GlassHouseModel", "askSum", "[I", true)
  | 29 => ("GlassHouseModel", "askValue", "I", false)
  | 30 => ("GlassHouseModel", "askFault", "I", false)
  | 31 => ("GlassHouseModel", "met", "[I", true)
  | 32 => ("GlassHouseModel", "walk", "I", false)
  | 33 => ("GlassHouseModel", "many", "[I", true)
  | 34 => ("GlassHouseModel", "op", "[I", true)
  | 35 => ("GlassHouseModel", "numA", "[I", true)
  | 36 => ("GlassHouseModel", "numB", "[I", true)
  | 37 => ("GlassHouseModel", "numC", "[I", true)
  | 38 => ("GlassHouseModel", "stock", "[J", true)
  | 39 => ("GlassHouseModel", "valve", "[I", true)
  | 40 => ("GlassHouseModel", "held", "[I", true)
  | 41 => ("GlassHouseModel", "bodies", "[I", true)
  | 42 => ("GlassHouseModel", "pile", "I", false)
  | 43 => ("GlassHouseModel", "pileOp", "[I", true)
  | 44 => ("GlassHouseModel", "pilePlan", "[I", true)
  | 45 => ("GlassHouseModel", "pileAt", "[I", true)
  | 46 => ("GlassHouseModel", "pileMark", "[I", true)
  | 47 => ("GlassHouseModel", "pileTimes", "[I", true)
  | 48 => ("GlassHouseModel", "wentWay", "[I", true)
  | 49 => ("GlassHouseModel", "wentFault", "[I", true)
  | 50 => ("GlassHouseModel", "wentOwn", "[I", true)
  | 51 => ("GlassHouseModel", "wentPlace", "[I", true)
  | 52 => ("GlassHouseModel", "wentCause", "[I", true)
  | 53 => ("GlassHouseModel", "wentAnswer", "[I", true)
  | 54 => ("GlassHouseModel", "changes", "I", false)
  | 55 => ("GlassHouseModel", "changedAt", "[I", true)
  | 56 => ("GlassHouseModel", "changedWas", "[J", true)
  | 57 => ("GlassHouseModel", "plan", "I", false)
  | 58 => ("GlassHouseModel", "pc", "I", false)
  | 59 => ("GlassHouseModel", "way", "I", false)
  | 60 => ("GlassHouseModel", "fault", "I", false)
  | 61 => ("GlassHouseModel", "own", "I", false)
  | 62 => ("GlassHouseModel", "faultPlace", "I", false)
  | 63 => ("GlassHouseModel", "cause", "I", false)
  | 64 => ("GlassHouseModel", "given", "I", false)
  | 65 => ("GlassHouseModel", "steps", "I", false)
  | 66 => ("GlassHouseModel", "dos", "I", false)
  | 67 => ("GlassHouseModel", "catches", "I", false)
  | 68 => ("GlassHouseModel", "lasts", "I", false)
  | 69 => ("GlassHouseModel", "deepest", "I", false)
  | 70 => ("GlassHouseModel", "arose", "I", false)
  | 71 => ("GlassHouseModel", "outPlace", "I", false)
  | 72 => ("GlassHouseModel", "outCause", "I", false)
  | 73 => ("GlassHouseModel", "outOwn", "I", false)
  | 74 => ("GlassHouseModel", "outAnswer", "I", false)
  | 75 => ("GlassHouseModel", "lines", "[I", true)
  | 76 => ("GlassHouseModel", "lineX", "[I", true)
  | 77 => ("GlassHouseModel", "lineY", "[I", true)
  | 78 => ("GlassHouseModel", "restsOn", "[I", true)
  | 79 => ("GlassHouseModel", "begun", "[Z", true)
  | 80 => ("GlassHouseModel", "isLaid", "[Z", true)
  | 81 => ("GlassHouseModel", "offset", "[I", true)
  | 82 => ("GlassHouseModel", "order", "[I", true)
  | 83 => ("GlassHouseModel", "laid", "I", false)
  | 84 => ("GlassHouseModel", "waiting", "[I", true)
  | 85 => ("GlassHouseModel", "minute", "I", false)
  | 86 => ("GlassHouseModel", "reading", "[J", true)
  | 87 => ("GlassHouseModel", "before", "[J", true)
  | 88 => ("GlassHouseModel", "isOut", "[Z", true)
  | 89 => ("GlassHouseModel", "why", "[I", true)
  | 90 => ("GlassHouseModel", "off", "[I", true)
  | 91 => ("GlassHouseModel", "near", "[I", true)
  | 92 => ("GlassHouseModel", "same", "[I", true)
  | 93 => ("GlassHouseModel", "moved", "[Z", true)
  | 94 => ("GlassHouseModel", "apart", "D", false)
  | 95 => ("GlassHouseModel", "voted", "[J", true)
  | 96 => ("GlassHouseModel", "outside", "[I", true)
  | 97 => ("GlassHouseModel", "warmth", "[J", true)
  | 98 => ("GlassHouseModel", "vapour", "[J", true)
  | 99 => ("GlassHouseModel", "vent", "[I", true)
  | 100 => ("GlassHouseModel", "pipe", "[I", true)
  | 101 => ("GlassHouseModel", "resting", "[I", true)
  | 102 => ("GlassHouseModel", "sums", "[J", true)
  | 103 => ("GlassHouseModel", "marks", "[I", true)
  | 104 => ("GlassHouseModel", "markAt", "[I", true)
  | 105 => ("GlassHouseModel", "markWish", "[I", true)
  | 106 => ("GlassHouseModel", "shared", "[J", true)
  | 107 => ("GlassHouseModel", "rests", "[J", true)
  | 108 => ("GlassHouseModel", "weigh", "[J", true)
  | 109 => ("GlassHouseModel", "good", "[D", true)
  | 110 => ("GlassHouseModel", "content", "[I", true)
  | 111 => ("GlassHouseModel", "up", "[J", true)
  | 112 => ("GlassHouseModel", "low", "[J", true)
  | 113 => ("GlassHouseModel", "column", "[I", true)
  | 114 => ("GlassHouseModel", "rank", "I", false)
  | 115 => ("GlassHouseModel", "isWorked", "Z", false)
  | 116 => ("GlassHouseModel", "isNone", "Z", false)
  | 117 => ("GlassHouseModel", "feedUp", "[J", true)
  | 118 => ("GlassHouseModel", "feedLow", "[J", true)
  | 119 => ("GlassHouseModel", "witness", "[J", true)
  | 120 => ("GlassHouseModel", "stage", "[J", true)
  | 121 => ("GlassHouseModel", "goesOn", "[I", true)
  | 122 => ("GlassHouseModel", "stays", "[I", true)
  | 123 => ("GlassHouseModel", "young", "[I", true)
  | 124 => ("GlassHouseModel", "next", "[J", true)
  | 125 => ("GlassHouseModel", "days", "I", false)
  | 126 => ("GlassHouseModel", "waits", "I", false)
  | 127 => ("GlassHouseModel", "octets", "[I", true)
  | 128 => ("GlassHouseModel", "draft", "[I", true)
  | 129 => ("GlassHouseModel", "latest", "I", false)
  | 130 => ("GlassHouseModel", "nextPage", "I", false)
  | 131 => ("GlassHouseModel", "isDark", "Z", false)
  | 132 => ("GlassHouseModel", "power", "I", false)
  | 133 => ("GlassHouseModel", "whole", "J", false)
  | _ => ("GlassHouseModel", "powerBits", "I", false)
def tyX12 : Nat → FieldType := fun k => match k with
  | 0 => .int
  | 1 => .int
  | 2 => .int
  | 3 => .array .int
  | 4 => .array .byte
  | 5 => .array .byte
  | 6 => .array .int
  | 7 => .int
  | 8 => .array .long
  | 9 => .int
  | 10 => .array .short
  | 11 => .array .int
  | 12 => .array .byte
  | 13 => .array .int
  | 14 => .array .int
  | 15 => .array .short
  | 16 => .array .short
  | 17 => .array .byte
  | 18 => .int
  | 19 => .int
  | 20 => .int
  | 21 => .array .long
  | 22 => .int
  | 23 => .array .int
  | 24 => .int
  | 25 => .int
  | 26 => .array .int
  | 27 => .array .int
  | 28 => .array .int
  | 29 => .int
  | 30 => .int
  | 31 => .array .int
  | 32 => .int
  | 33 => .array .int
  | 34 => .array .int
  | 35 => .array .int
  | 36 => .array .int
  | 37 => .array .int
  | 38 => .array .long
  | 39 => .array .int
  | 40 => .array .int
  | 41 => .array .int
  | 42 => .int
  | 43 => .array .int
  | 44 => .array .int
  | 45 => .array .int
  | 46 => .array .int
  | 47 => .array .int
  | 48 => .array .int
  | 49 => .array .int
  | 50 => .array .int
  | 51 => .array .int
  | 52 => .array .int
  | 53 => .array .int
  | 54 => .int
  | 55 => .array .int
  | 56 => .array .long
  | 57 => .int
  | 58 => .int
  | 59 => .int
  | 60 => .int
  | 61 => .int
  | 62 => .int
  | 63 => .int
  | 64 => .int
  | 65 => .int
  | 66 => .int
  | 67 => .int
  | 68 => .int
  | 69 => .int
  | 70 => .int
  | 71 => .int
  | 72 => .int
  | 73 => .int
  | 74 => .int
  | 75 => .array .int
  | 76 => .array .int
  | 77 => .array .int
  | 78 => .array .int
  | 79 => .array .boolean
  | 80 => .array .boolean
  | 81 => .array .int
  | 82 => .array .int
  | 83 => .int
  | 84 => .array .int
  | 85 => .int
  | 86 => .array .long
  | 87 => .array .long
  | 88 => .array .boolean
  | 89 => .array .int
  | 90 => .array .int
  | 91 => .array .int
  | 92 => .array .int
  | 93 => .array .boolean
  | 94 => .double
  | 95 => .array .long
  | 96 => .array .int
  | 97 => .array .long
  | 98 => .array .long
  | 99 => .array .int
  | 100 => .array .int
  | 101 => .array .int
  | 102 => .array .long
  | 103 => .array .int
  | 104 => .array .int
  | 105 => .array .int
  | 106 => .array .long
  | 107 => .array .long
  | 108 => .array .long
  | 109 => .array .double
  | 110 => .array .int
  | 111 => .array .long
  | 112 => .array .long
  | 113 => .array .int
  | 114 => .int
  | 115 => .boolean
  | 116 => .boolean
  | 117 => .array .long
  | 118 => .array .long
  | 119 => .array .long
  | 120 => .array .long
  | 121 => .array .int
  | 122 => .array .int
  | 123 => .array .int
  | 124 => .array .long
  | 125 => .int
  | 126 => .int
  | 127 => .array .int
  | 128 => .array .int
  | 129 => .int
  | 130 => .int
  | 131 => .boolean
  | 132 => .int
  | 133 => .long
  | _ => .int
abbrev wsX120 : List Cond := u_ws RX12 TX12 135
theorem nmX12 : ∀ a, a < 135 → ∀ b, b < 135 → a ≠ b → (TX12 a).2.1 ≠ (TX12 b).2.1 := by decide +kernel
theorem tyX12_ok : ∀ k, k < 135 → parseFieldDescriptor (TX12 k).2.2.1 = some (tyX12 k) := by decide +kernel
abbrev cX12_init : ByteArray := prog_14_method_1_code
def yX12_init : MethodName := ⟨RX12, "<init>", "()V"⟩
abbrev cX12_in : ByteArray := prog_14_method_2_code
def yX12_in : MethodName := ⟨RX12, "in", "(III)Z"⟩
abbrev cX12_isBin : ByteArray := prog_14_method_3_code
def yX12_isBin : MethodName := ⟨RX12, "isBin", "(I)Z"⟩
abbrev cX12_isFull : ByteArray := prog_14_method_4_code
def yX12_isFull : MethodName := ⟨RX12, "isFull", "()Z"⟩
abbrev cX12_no : ByteArray := prog_14_method_5_code
def yX12_no : MethodName := ⟨RX12, "no", "(I)I"⟩
abbrev cX12_noBits : ByteArray := prog_14_method_6_code
def yX12_noBits : MethodName := ⟨RX12, "noBits", "(I)J"⟩
abbrev cX12_thing : ByteArray := prog_14_method_7_code
def yX12_thing : MethodName := ⟨RX12, "thing", "(II)I"⟩
abbrev cX12_newRow : ByteArray := prog_14_method_8_code
def yX12_newRow : MethodName := ⟨RX12, "newRow", "(II)I"⟩
abbrev cX12_newPlaces : ByteArray := prog_14_method_9_code
def yX12_newPlaces : MethodName := ⟨RX12, "newPlaces", "(II)I"⟩
abbrev cX12_isRow : ByteArray := prog_14_method_10_code
def yX12_isRow : MethodName := ⟨RX12, "isRow", "(I)Z"⟩
abbrev cX12_hasPlaces : ByteArray := prog_14_method_11_code
def yX12_hasPlaces : MethodName := ⟨RX12, "hasPlaces", "(I)Z"⟩
abbrev cX12_isOf : ByteArray := prog_14_method_12_code
def yX12_isOf : MethodName := ⟨RX12, "isOf", "(II)Z"⟩
abbrev cX12_looked : ByteArray := prog_14_method_13_code
def yX12_looked : MethodName := ⟨RX12, "looked", "(II)I"⟩
abbrev cX12_laneOf : ByteArray := prog_14_method_14_code
def yX12_laneOf : MethodName := ⟨RX12, "laneOf", "(I)I"⟩
abbrev cX12_isFor : ByteArray := prog_14_method_15_code
def yX12_isFor : MethodName := ⟨RX12, "isFor", "(II)Z"⟩
abbrev cX12_isTrayFor : ByteArray := prog_14_method_16_code
def yX12_isTrayFor : MethodName := ⟨RX12, "isTrayFor", "(II)Z"⟩
abbrev cX12_fitted : ByteArray := prog_14_method_17_code
def yX12_fitted : MethodName := ⟨RX12, "fitted", "(IJ)J"⟩
abbrev cX12_row : ByteArray := prog_14_method_18_code
def yX12_row : MethodName := ⟨RX12, "row", "(III)I"⟩
abbrev cX12_grid : ByteArray := prog_14_method_19_code
def yX12_grid : MethodName := ⟨RX12, "grid", "(IIIIZ)I"⟩
abbrev cX12_hollow : ByteArray := prog_14_method_20_code
def yX12_hollow : MethodName := ⟨RX12, "hollow", "(IIII)I"⟩
abbrev cX12_storeys : ByteArray := prog_14_method_21_code
def yX12_storeys : MethodName := ⟨RX12, "storeys", "(II)I"⟩
abbrev cX12_tray : ByteArray := prog_14_method_22_code
def yX12_tray : MethodName := ⟨RX12, "tray", "(III)I"⟩
abbrev cX12_share : ByteArray := prog_14_method_23_code
def yX12_share : MethodName := ⟨RX12, "share", "(II)I"⟩
abbrev cX12_form : ByteArray := prog_14_method_24_code
def yX12_form : MethodName := ⟨RX12, "form", "(I)I"⟩
abbrev cX12_is : ByteArray := prog_14_method_25_code
def yX12_is : MethodName := ⟨RX12, "is", "(II)I"⟩
abbrev cX12_against : ByteArray := prog_14_method_26_code
def yX12_against : MethodName := ⟨RX12, "against", "(III)I"⟩
abbrev cX12_get : ByteArray := prog_14_method_27_code
def yX12_get : MethodName := ⟨RX12, "get", "(III)J"⟩
abbrev cX12_put : ByteArray := prog_14_method_28_code
def yX12_put : MethodName := ⟨RX12, "put", "(IIIJ)I"⟩
abbrev cX12_againstBed : ByteArray := prog_14_method_29_code
def yX12_againstBed : MethodName := ⟨RX12, "againstBed", "(IIII)I"⟩
abbrev cX12_bed : ByteArray := prog_14_method_30_code
def yX12_bed : MethodName := ⟨RX12, "bed", "(IIII)J"⟩
abbrev cX12_setBed : ByteArray := prog_14_method_31_code
def yX12_setBed : MethodName := ⟨RX12, "setBed", "(IIIIJ)I"⟩
abbrev cX12_countUp : ByteArray := prog_14_method_32_code
def yX12_countUp : MethodName := ⟨RX12, "countUp", "(IIIIZ)I"⟩
abbrev cX12_againstPlace : ByteArray := prog_14_method_33_code
def yX12_againstPlace : MethodName := ⟨RX12, "againstPlace", "(II)I"⟩
abbrev cX12_set : ByteArray := prog_14_method_34_code
def yX12_set : MethodName := ⟨RX12, "set", "(III)I"⟩
abbrev cX12_lift : ByteArray := prog_14_method_35_code
def yX12_lift : MethodName := ⟨RX12, "lift", "(III)I"⟩
abbrev cX12_liftAs : ByteArray := prog_14_method_36_code
def yX12_liftAs : MethodName := ⟨RX12, "liftAs", "(IIII)I"⟩
abbrev cX12_againstShift : ByteArray := prog_14_method_37_code
def yX12_againstShift : MethodName := ⟨RX12, "againstShift", "(IIIII)I"⟩
abbrev cX12_shift : ByteArray := prog_14_method_38_code
def yX12_shift : MethodName := ⟨RX12, "shift", "(IIIII)I"⟩
abbrev cX12_came : ByteArray := prog_14_method_39_code
def yX12_came : MethodName := ⟨RX12, "came", "()I"⟩
abbrev cX12_rowCopy : ByteArray := prog_14_method_40_code
def yX12_rowCopy : MethodName := ⟨RX12, "rowCopy", "(I)I"⟩
abbrev cX12_gridCopy : ByteArray := prog_14_method_41_code
def yX12_gridCopy : MethodName := ⟨RX12, "gridCopy", "(I)I"⟩
abbrev cX12_placesCopy : ByteArray := prog_14_method_42_code
def yX12_placesCopy : MethodName := ⟨RX12, "placesCopy", "(IZ)I"⟩
abbrev cX12_cardCopy : ByteArray := prog_14_method_43_code
def yX12_cardCopy : MethodName := ⟨RX12, "cardCopy", "(I)I"⟩
abbrev cX12_copy : ByteArray := prog_14_method_44_code
def yX12_copy : MethodName := ⟨RX12, "copy", "(IIZ)I"⟩
abbrev cX12_areRowsAlike : ByteArray := prog_14_method_45_code
def yX12_areRowsAlike : MethodName := ⟨RX12, "areRowsAlike", "(II)Z"⟩
abbrev cX12_areGridsAlike : ByteArray := prog_14_method_46_code
def yX12_areGridsAlike : MethodName := ⟨RX12, "areGridsAlike", "(II)Z"⟩
abbrev cX12_arePlacesAlike : ByteArray := prog_14_method_47_code
def yX12_arePlacesAlike : MethodName := ⟨RX12, "arePlacesAlike", "(II)Z"⟩
abbrev cX12_areCardsAlike : ByteArray := prog_14_method_48_code
def yX12_areCardsAlike : MethodName := ⟨RX12, "areCardsAlike", "(II)Z"⟩
abbrev cX12_alike : ByteArray := prog_14_method_49_code
def yX12_alike : MethodName := ⟨RX12, "alike", "(II)I"⟩
abbrev cX12_size : ByteArray := prog_14_method_50_code
def yX12_size : MethodName := ⟨RX12, "size", "(II)I"⟩
abbrev cX12_plant : ByteArray := prog_14_method_51_code
def yX12_plant : MethodName := ⟨RX12, "plant", "(IIIIII)I"⟩
abbrev cX12_body : ByteArray := prog_14_method_52_code
def yX12_body : MethodName := ⟨RX12, "body", "(I)V"⟩
abbrev cX12_plainSize : ByteArray := prog_14_method_53_code
def yX12_plainSize : MethodName := ⟨RX12, "plainSize", "(I)I"⟩
abbrev cX12_sizeOf : ByteArray := prog_14_method_54_code
def yX12_sizeOf : MethodName := ⟨RX12, "sizeOf", "(I)I"⟩
abbrev cX12_thirstOf : ByteArray := prog_14_method_55_code
def yX12_thirstOf : MethodName := ⟨RX12, "thirstOf", "(I)I"⟩
abbrev cX12_costOf : ByteArray := prog_14_method_56_code
def yX12_costOf : MethodName := ⟨RX12, "costOf", "(I)I"⟩
abbrev cX12_askOf : ByteArray := prog_14_method_57_code
def yX12_askOf : MethodName := ⟨RX12, "askOf", "(II)I"⟩
abbrev cX12_ask : ByteArray := prog_14_method_58_code
def yX12_ask : MethodName := ⟨RX12, "ask", "(II)I"⟩
abbrev cX12_answer : ByteArray := prog_14_method_59_code
def yX12_answer : MethodName := ⟨RX12, "answer", "()I"⟩
abbrev cX12_trace : ByteArray := prog_14_method_60_code
def yX12_trace : MethodName := ⟨RX12, "trace", "(I)I"⟩
abbrev cX12_newCard : ByteArray := prog_14_method_61_code
def yX12_newCard : MethodName := ⟨RX12, "newCard", "()I"⟩
abbrev cX12_card : ByteArray := prog_14_method_62_code
def yX12_card : MethodName := ⟨RX12, "card", "(I)I"⟩
abbrev cX12_againstCard : ByteArray := prog_14_method_63_code
def yX12_againstCard : MethodName := ⟨RX12, "againstCard", "(I)I"⟩
abbrev cX12_field : ByteArray := prog_14_method_64_code
def yX12_field : MethodName := ⟨RX12, "field", "(II)J"⟩
abbrev cX12_setField : ByteArray := prog_14_method_65_code
def yX12_setField : MethodName := ⟨RX12, "setField", "(IIJ)I"⟩
abbrev cX12_lead : ByteArray := prog_14_method_66_code
def yX12_lead : MethodName := ⟨RX12, "lead", "(III)I"⟩
abbrev cX12_follow : ByteArray := prog_14_method_67_code
def yX12_follow : MethodName := ⟨RX12, "follow", "(III)I"⟩
abbrev cX12_led : ByteArray := prog_14_method_68_code
def yX12_led : MethodName := ⟨RX12, "led", "(II)I"⟩
abbrev cX12_step : ByteArray := prog_14_method_69_code
def yX12_step : MethodName := ⟨RX12, "step", "(IIIII)I"⟩
abbrev cX12_drop : ByteArray := prog_14_method_70_code
def yX12_drop : MethodName := ⟨RX12, "drop", "(I)I"⟩
abbrev cX12_hasBody : ByteArray := prog_14_method_71_code
def yX12_hasBody : MethodName := ⟨RX12, "hasBody", "(I)Z"⟩
abbrev cX12_wrong : ByteArray := prog_14_method_72_code
def yX12_wrong : MethodName := ⟨RX12, "wrong", "(I)I"⟩
abbrev cX12_formed : ByteArray := prog_14_method_73_code
def yX12_formed : MethodName := ⟨RX12, "formed", "(I)I"⟩
abbrev cX12_endOf : ByteArray := prog_14_method_74_code
def yX12_endOf : MethodName := ⟨RX12, "endOf", "(II)I"⟩
abbrev cX12_note : ByteArray := prog_14_method_75_code
def yX12_note : MethodName := ⟨RX12, "note", "(IJ)V"⟩
abbrev cX12_setCell : ByteArray := prog_14_method_76_code
def yX12_setCell : MethodName := ⟨RX12, "setCell", "(IJ)V"⟩
abbrev cX12_changeStock : ByteArray := prog_14_method_77_code
def yX12_changeStock : MethodName := ⟨RX12, "changeStock", "(IJ)V"⟩
abbrev cX12_undoTo : ByteArray := prog_14_method_78_code
def yX12_undoTo : MethodName := ⟨RX12, "undoTo", "(I)V"⟩
abbrev cX12_fails : ByteArray := prog_14_method_79_code
def yX12_fails : MethodName := ⟨RX12, "fails", "(II)V"⟩
abbrev cX12_push : ByteArray := prog_14_method_80_code
def yX12_push : MethodName := ⟨RX12, "push", "(I)V"⟩
abbrev cX12_a : ByteArray := prog_14_method_81_code
def yX12_a : MethodName := ⟨RX12, "a", "()I"⟩
abbrev cX12_b : ByteArray := prog_14_method_82_code
def yX12_b : MethodName := ⟨RX12, "b", "()I"⟩
abbrev cX12_c : ByteArray := prog_14_method_83_code
def yX12_c : MethodName := ⟨RX12, "c", "()I"⟩
abbrev cX12_enter : ByteArray := prog_14_method_84_code
def yX12_enter : MethodName := ⟨RX12, "enter", "(I)V"⟩
abbrev cX12_areNumbers : ByteArray := prog_14_method_85_code
def yX12_areNumbers : MethodName := ⟨RX12, "areNumbers", "(I)Z"⟩
abbrev cX12_plain : ByteArray := prog_14_method_86_code
def yX12_plain : MethodName := ⟨RX12, "plain", "(I)I"⟩
abbrev cX12_isStep : ByteArray := prog_14_method_87_code
def yX12_isStep : MethodName := ⟨RX12, "isStep", "()Z"⟩
abbrev cX12_begin : ByteArray := prog_14_method_88_code
def yX12_begin : MethodName := ⟨RX12, "begin", "(I)V"⟩
abbrev cX12_call : ByteArray := prog_14_method_89_code
def yX12_call : MethodName := ⟨RX12, "call", "()V"⟩
abbrev cX12_giveBack : ByteArray := prog_14_method_90_code
def yX12_giveBack : MethodName := ⟨RX12, "giveBack", "(I)V"⟩
abbrev cX12_behind : ByteArray := prog_14_method_91_code
def yX12_behind : MethodName := ⟨RX12, "behind", "(II)V"⟩
abbrev cX12_close : ByteArray := prog_14_method_92_code
def yX12_close : MethodName := ⟨RX12, "close", "()V"⟩
abbrev cX12_isMet : ByteArray := prog_14_method_93_code
def yX12_isMet : MethodName := ⟨RX12, "isMet", "(II)Z"⟩
abbrev cX12_unwind : ByteArray := prog_14_method_94_code
def yX12_unwind : MethodName := ⟨RX12, "unwind", "()V"⟩
abbrev cX12_leave : ByteArray := prog_14_method_95_code
def yX12_leave : MethodName := ⟨RX12, "leave", "(II)V"⟩
abbrev cX12_again : ByteArray := prog_14_method_96_code
def yX12_again : MethodName := ⟨RX12, "again", "(I)V"⟩
abbrev cX12_run : ByteArray := prog_14_method_97_code
def yX12_run : MethodName := ⟨RX12, "run", "(I)I"⟩
abbrev cX12_ran : ByteArray := prog_14_method_98_code
def yX12_ran : MethodName := ⟨RX12, "ran", "(I)I"⟩
abbrev cX12_stock : ByteArray := prog_14_method_99_code
def yX12_stock : MethodName := ⟨RX12, "stock", "(I)J"⟩
abbrev cX12_setStock : ByteArray := prog_14_method_100_code
def yX12_setStock : MethodName := ⟨RX12, "setStock", "(IJ)I"⟩
abbrev cX12_valve : ByteArray := prog_14_method_101_code
def yX12_valve : MethodName := ⟨RX12, "valve", "(II)I"⟩
abbrev cX12_isTable : ByteArray := prog_14_method_102_code
def yX12_isTable : MethodName := ⟨RX12, "isTable", "(I)Z"⟩
abbrev cX12_line : ByteArray := prog_14_method_103_code
def yX12_line : MethodName := ⟨RX12, "line", "(III)I"⟩
abbrev cX12_rest : ByteArray := prog_14_method_104_code
def yX12_rest : MethodName := ⟨RX12, "rest", "(II)I"⟩
abbrev cX12_lay : ByteArray := prog_14_method_105_code
def yX12_lay : MethodName := ⟨RX12, "lay", "(I)V"⟩
abbrev cX12_down : ByteArray := prog_14_method_106_code
def yX12_down : MethodName := ⟨RX12, "down", "(JJ)J"⟩
abbrev cX12_valueOf : ByteArray := prog_14_method_107_code
def yX12_valueOf : MethodName := ⟨RX12, "valueOf", "(II)I"⟩
abbrev cX12_value : ByteArray := prog_14_method_108_code
def yX12_value : MethodName := ⟨RX12, "value", "(II)I"⟩
abbrev cX12_laid : ByteArray := prog_14_method_109_code
def yX12_laid : MethodName := ⟨RX12, "laid", "(I)I"⟩
abbrev cX12_read : ByteArray := prog_14_method_110_code
def yX12_read : MethodName := ⟨RX12, "read", "(IJ)I"⟩
abbrev cX12_part : ByteArray := prog_14_method_111_code
def yX12_part : MethodName := ⟨RX12, "part", "(J)I"⟩
abbrev cX12_probe : ByteArray := prog_14_method_112_code
def yX12_probe : MethodName := ⟨RX12, "probe", "(II)I"⟩
abbrev cX12_voted : ByteArray := prog_14_method_113_code
def yX12_voted : MethodName := ⟨RX12, "voted", "(I)J"⟩
abbrev cX12_reads : ByteArray := prog_14_method_114_code
def yX12_reads : MethodName := ⟨RX12, "reads", "(I)Z"⟩
abbrev cX12_isBelow : ByteArray := prog_14_method_115_code
def yX12_isBelow : MethodName := ⟨RX12, "isBelow", "(JJ)Z"⟩
abbrev cX12_find : ByteArray := prog_14_method_116_code
def yX12_find : MethodName := ⟨RX12, "find", "(I)V"⟩
abbrev cX12_isOff : ByteArray := prog_14_method_117_code
def yX12_isOff : MethodName := ⟨RX12, "isOff", "(II)Z"⟩
abbrev cX12_countIn : ByteArray := prog_14_method_118_code
def yX12_countIn : MethodName := ⟨RX12, "countIn", "(I)V"⟩
abbrev cX12_vote : ByteArray := prog_14_method_119_code
def yX12_vote : MethodName := ⟨RX12, "vote", "(I)V"⟩
abbrev cX12_weather : ByteArray := prog_14_method_120_code
def yX12_weather : MethodName := ⟨RX12, "weather", "(II)I"⟩
abbrev cX12_mark : ByteArray := prog_14_method_121_code
def yX12_mark : MethodName := ⟨RX12, "mark", "(III)I"⟩
abbrev cX12_unmark : ByteArray := prog_14_method_122_code
def yX12_unmark : MethodName := ⟨RX12, "unmark", "(I)I"⟩
abbrev cX12_wishAt : ByteArray := prog_14_method_123_code
def yX12_wishAt : MethodName := ⟨RX12, "wishAt", "(II)I"⟩
abbrev cX12_wish : ByteArray := prog_14_method_124_code
def yX12_wish : MethodName := ⟨RX12, "wish", "(II)I"⟩
abbrev cX12_toward : ByteArray := prog_14_method_125_code
def yX12_toward : MethodName := ⟨RX12, "toward", "(II)I"⟩
abbrev cX12_within : ByteArray := prog_14_method_126_code
def yX12_within : MethodName := ⟨RX12, "within", "(JJ)J"⟩
abbrev cX12_steer : ByteArray := prog_14_method_127_code
def yX12_steer : MethodName := ⟨RX12, "steer", "(I)V"⟩
abbrev cX12_breathe : ByteArray := prog_14_method_128_code
def yX12_breathe : MethodName := ⟨RX12, "breathe", "(I)V"⟩
abbrev cX12_minute : ByteArray := prog_14_method_129_code
def yX12_minute : MethodName := ⟨RX12, "minute", "(I)I"⟩
abbrev cX12_air : ByteArray := prog_14_method_130_code
def yX12_air : MethodName := ⟨RX12, "air", "(II)J"⟩
abbrev cX12_partWhole : ByteArray := prog_14_method_131_code
def yX12_partWhole : MethodName := ⟨RX12, "partWhole", "(JI)V"⟩
abbrev cX12_shares : ByteArray := prog_14_method_132_code
def yX12_shares : MethodName := ⟨RX12, "shares", "(III)I"⟩
abbrev cX12_quotient : ByteArray := prog_14_method_133_code
def yX12_quotient : MethodName := ⟨RX12, "quotient", "(IJJI)J"⟩
abbrev cX12_realOf : ByteArray := prog_14_method_134_code
def yX12_realOf : MethodName := ⟨RX12, "realOf", "(IJ)D"⟩
abbrev cX12_compare : ByteArray := prog_14_method_135_code
def yX12_compare : MethodName := ⟨RX12, "compare", "(IIIII)I"⟩
abbrev cX12_isLess : ByteArray := prog_14_method_136_code
def yX12_isLess : MethodName := ⟨RX12, "isLess", "(DD)Z"⟩
abbrev cX12_real : ByteArray := prog_14_method_137_code
def yX12_real : MethodName := ⟨RX12, "real", "(III)J"⟩
abbrev cX12_wholeMean : ByteArray := prog_14_method_138_code
def yX12_wholeMean : MethodName := ⟨RX12, "wholeMean", "(I)I"⟩
abbrev cX12_salt : ByteArray := prog_14_method_139_code
def yX12_salt : MethodName := ⟨RX12, "salt", "(III)I"⟩
abbrev cX12_common : ByteArray := prog_14_method_140_code
def yX12_common : MethodName := ⟨RX12, "common", "(JJ)J"⟩
abbrev cX12_fraction : ByteArray := prog_14_method_141_code
def yX12_fraction : MethodName := ⟨RX12, "fraction", "(IJJ)V"⟩
abbrev cX12_less : ByteArray := prog_14_method_142_code
def yX12_less : MethodName := ⟨RX12, "less", "(IJJI)V"⟩
abbrev cX12_liftRow : ByteArray := prog_14_method_143_code
def yX12_liftRow : MethodName := ⟨RX12, "liftRow", "(I)V"⟩
abbrev cX12_clear : ByteArray := prog_14_method_144_code
def yX12_clear : MethodName := ⟨RX12, "clear", "(I)V"⟩
abbrev cX12_makeWitness : ByteArray := prog_14_method_145_code
def yX12_makeWitness : MethodName := ⟨RX12, "makeWitness", "(I)V"⟩
abbrev cX12_work : ByteArray := prog_14_method_146_code
def yX12_work : MethodName := ⟨RX12, "work", "()I"⟩
abbrev cX12_worked : ByteArray := prog_14_method_147_code
def yX12_worked : MethodName := ⟨RX12, "worked", "(II)J"⟩
abbrev cX12_isStage : ByteArray := prog_14_method_148_code
def yX12_isStage : MethodName := ⟨RX12, "isStage", "(II)Z"⟩
abbrev cX12_count : ByteArray := prog_14_method_149_code
def yX12_count : MethodName := ⟨RX12, "count", "(III)I"⟩
abbrev cX12_parts : ByteArray := prog_14_method_150_code
def yX12_parts : MethodName := ⟨RX12, "parts", "(IIIII)I"⟩
abbrev cX12_oneDay : ByteArray := prog_14_method_151_code
def yX12_oneDay : MethodName := ⟨RX12, "oneDay", "(I)V"⟩
abbrev cX12_day : ByteArray := prog_14_method_152_code
def yX12_day : MethodName := ⟨RX12, "day", "(I)I"⟩
abbrev cX12_spray : ByteArray := prog_14_method_153_code
def yX12_spray : MethodName := ⟨RX12, "spray", "(I)I"⟩
abbrev cX12_pest : ByteArray := prog_14_method_154_code
def yX12_pest : MethodName := ⟨RX12, "pest", "(II)I"⟩
abbrev cX12_wait1 : ByteArray := prog_14_method_155_code
def yX12_wait1 : MethodName := ⟨RX12, "wait1", "()I"⟩
abbrev cX12_sumOf : ByteArray := prog_14_method_156_code
def yX12_sumOf : MethodName := ⟨RX12, "sumOf", "([II)I"⟩
abbrev cX12_wide : ByteArray := prog_14_method_157_code
def yX12_wide : MethodName := ⟨RX12, "wide", "([III)J"⟩
abbrev cX12_layWide : ByteArray := prog_14_method_158_code
def yX12_layWide : MethodName := ⟨RX12, "layWide", "(IIJ)V"⟩
abbrev cX12_isPageLane : ByteArray := prog_14_method_159_code
def yX12_isPageLane : MethodName := ⟨RX12, "isPageLane", "(I)Z"⟩
abbrev cX12_write : ByteArray := prog_14_method_160_code
def yX12_write : MethodName := ⟨RX12, "write", "(I)I"⟩
abbrev cX12_power : ByteArray := prog_14_method_161_code
def yX12_power : MethodName := ⟨RX12, "power", "(I)I"⟩
abbrev cX12_numberOf : ByteArray := prog_14_method_162_code
def yX12_numberOf : MethodName := ⟨RX12, "numberOf", "(I)I"⟩
abbrev cX12_isWhole : ByteArray := prog_14_method_163_code
def yX12_isWhole : MethodName := ⟨RX12, "isWhole", "(I)Z"⟩
abbrev cX12_pageOf : ByteArray := prog_14_method_164_code
def yX12_pageOf : MethodName := ⟨RX12, "pageOf", "(I)I"⟩
abbrev cX12_above : ByteArray := prog_14_method_165_code
def yX12_above : MethodName := ⟨RX12, "above", "(I)I"⟩
abbrev cX12_readMany : ByteArray := prog_14_method_166_code
def yX12_readMany : MethodName := ⟨RX12, "readMany", "()I"⟩
abbrev cX12_open1 : ByteArray := prog_14_method_167_code
def yX12_open1 : MethodName := ⟨RX12, "open1", "()I"⟩
abbrev cX12_page : ByteArray := prog_14_method_168_code
def yX12_page : MethodName := ⟨RX12, "page", "(II)J"⟩
abbrev cX12_clash : ByteArray := prog_14_method_169_code
def yX12_clash : MethodName := ⟨RX12, "clash", "()I"⟩
abbrev cX12_octet : ByteArray := prog_14_method_170_code
def yX12_octet : MethodName := ⟨RX12, "octet", "(II)I"⟩
abbrev cX12_damage : ByteArray := prog_14_method_171_code
def yX12_damage : MethodName := ⟨RX12, "damage", "(III)I"⟩
abbrev cX12_told : ByteArray := prog_14_method_172_code
def yX12_told : MethodName := ⟨RX12, "told", "(I)I"⟩
abbrev cX12_fault : ByteArray := prog_14_method_173_code
def yX12_fault : MethodName := ⟨RX12, "fault", "()I"⟩
abbrev cX12_powerOf : ByteArray := prog_14_method_175_code
def yX12_powerOf : MethodName := ⟨RX12, "powerOf", "(I)D"⟩
abbrev cX12_scaled : ByteArray := prog_14_method_176_code
def yX12_scaled : MethodName := ⟨RX12, "scaled", "(JI)D"⟩
abbrev cX12_great : ByteArray := prog_14_method_177_code
def yX12_great : MethodName := ⟨RX12, "great", "()D"⟩
abbrev cX12_isEndless : ByteArray := prog_14_method_178_code
def yX12_isEndless : MethodName := ⟨RX12, "isEndless", "(D)Z"⟩
abbrev cX12_plusReal : ByteArray := prog_14_method_179_code
def yX12_plusReal : MethodName := ⟨RX12, "plusReal", "(DD)D"⟩
abbrev cX12_overReal : ByteArray := prog_14_method_182_code
def yX12_overReal : MethodName := ⟨RX12, "overReal", "(DD)D"⟩
abbrev cX12_fromBits : ByteArray := prog_14_method_183_code
def yX12_fromBits : MethodName := ⟨RX12, "fromBits", "(J)D"⟩
abbrev cX12_fromSingle : ByteArray := prog_14_method_184_code
def yX12_fromSingle : MethodName := ⟨RX12, "fromSingle", "(I)D"⟩
abbrev cX12_isMinus : ByteArray := prog_14_method_185_code
def yX12_isMinus : MethodName := ⟨RX12, "isMinus", "(D)Z"⟩
abbrev cX12_parted : ByteArray := prog_14_method_186_code
def yX12_parted : MethodName := ⟨RX12, "parted", "(DI)V"⟩
abbrev cX12_bits : ByteArray := prog_14_method_187_code
def yX12_bits : MethodName := ⟨RX12, "bits", "(D)J"⟩
def RJ6 : String := "java/lang/Integer"
def TJ6 : u_T := fun k => match k with
  | _ => ("", "", "", false)
def tyJ6 : Nat → FieldType := fun k => match k with
  | _ => .int
abbrev wsJ60 : List Cond := u_ws RJ6 TJ6 0
theorem nmJ6 : ∀ a, a < 0 → ∀ b, b < 0 → a ≠ b → (TJ6 a).2.1 ≠ (TJ6 b).2.1 := by decide +kernel
theorem tyJ6_ok : ∀ k, k < 0 → parseFieldDescriptor (TJ6 k).2.2.1 = some (tyJ6 k) := by decide +kernel
abbrev cJ6_numberOfLeadingZeros_0f7a4 : ByteArray := prog_15_method_47_code
def yJ6_numberOfLeadingZeros_0f7a4 : MethodName := ⟨RJ6, "numberOfLeadingZeros", "(I)I"⟩
abbrev cJ6_rotateLeft_7cf53 : ByteArray := prog_15_method_50_code
def yJ6_rotateLeft_7cf53 : MethodName := ⟨RJ6, "rotateLeft", "(II)I"⟩
def RJ13 : String := "java/lang/Long"
def TJ13 : u_T := fun k => match k with
  | _ => ("", "", "", false)
def tyJ13 : Nat → FieldType := fun k => match k with
  | _ => .int
abbrev wsJ130 : List Cond := u_ws RJ13 TJ13 0
theorem nmJ13 : ∀ a, a < 0 → ∀ b, b < 0 → a ≠ b → (TJ13 a).2.1 ≠ (TJ13 b).2.1 := by decide +kernel
theorem tyJ13_ok : ∀ k, k < 0 → parseFieldDescriptor (TJ13 k).2.2.1 = some (tyJ13 k) := by decide +kernel
abbrev cJ13_numberOfLeadingZeros_95d88 : ByteArray := prog_16_method_48_code
def yJ13_numberOfLeadingZeros_95d88 : MethodName := ⟨RJ13, "numberOfLeadingZeros", "(J)I"⟩
def RJ9 : String := "java/lang/Math"
def TJ9 : u_T := fun k => match k with
  | _ => ("", "", "", false)
def tyJ9 : Nat → FieldType := fun k => match k with
  | _ => .int
abbrev wsJ90 : List Cond := u_ws RJ9 TJ9 0
theorem nmJ9 : ∀ a, a < 0 → ∀ b, b < 0 → a ≠ b → (TJ9 a).2.1 ≠ (TJ9 b).2.1 := by decide +kernel
theorem tyJ9_ok : ∀ k, k < 0 → parseFieldDescriptor (TJ9 k).2.2.1 = some (tyJ9 k) := by decide +kernel
abbrev cJ9_floorDiv_f86c9 : ByteArray := prog_17_method_49_code
def yJ9_floorDiv_f86c9 : MethodName := ⟨RJ9, "floorDiv", "(JJ)J"⟩
abbrev cJ9_abs_067f4 : ByteArray := prog_17_method_61_code
def yJ9_abs_067f4 : MethodName := ⟨RJ9, "abs", "(J)J"⟩
abbrev cJ9_max_7cf53 : ByteArray := prog_17_method_65_code
def yJ9_max_7cf53 : MethodName := ⟨RJ9, "max", "(II)I"⟩
abbrev cJ9_max_f86c9 : ByteArray := prog_17_method_66_code
def yJ9_max_f86c9 : MethodName := ⟨RJ9, "max", "(JJ)J"⟩
abbrev cJ9_min_7cf53 : ByteArray := prog_17_method_69_code
def yJ9_min_7cf53 : MethodName := ⟨RJ9, "min", "(II)I"⟩
abbrev cJ9_min_f86c9 : ByteArray := prog_17_method_70_code
def yJ9_min_f86c9 : MethodName := ⟨RJ9, "min", "(JJ)J"⟩
def RL : String := "GlassHouseLaw"
abbrev cL_law : ByteArray := code
def yL_law : MethodName := ⟨RL, "law", "([I)Z"⟩
def wsJ6_rotateLeft_7cf53 : List Cond := .code yJ6_rotateLeft_7cf53 cJ6_rotateLeft_7cf53 2 (some .int) :: ([])
def wsJ9_floorDiv_f86c9 : List Cond := .code yJ9_floorDiv_f86c9 cJ9_floorDiv_f86c9 6 (some .long) :: ([])
def wsJ6_numberOfLeadingZeros_0f7a4 : List Cond := .code yJ6_numberOfLeadingZeros_0f7a4 cJ6_numberOfLeadingZeros_0f7a4 2 (some .int) :: ([.constant RJ6 264 (65536)])
def wsJ13_numberOfLeadingZeros_95d88 : List Cond := .code yJ13_numberOfLeadingZeros_95d88 cJ13_numberOfLeadingZeros_95d88 3 (some .int) :: ([.methodLink RJ13 308 yJ6_numberOfLeadingZeros_0f7a4, .static yJ6_numberOfLeadingZeros_0f7a4, .initialized RJ6, .code yJ6_numberOfLeadingZeros_0f7a4 cJ6_numberOfLeadingZeros_0f7a4 2 (some .int), .constant RJ6 264 (65536)])
def wsJ9_abs_067f4 : List Cond := .code yJ9_abs_067f4 cJ9_abs_067f4 2 (some .long) :: ([])
def wsJ9_max_7cf53 : List Cond := .code yJ9_max_7cf53 cJ9_max_7cf53 2 (some .int) :: ([])
def wsJ9_max_f86c9 : List Cond := .code yJ9_max_f86c9 cJ9_max_f86c9 4 (some .long) :: ([])
def wsJ9_min_7cf53 : List Cond := .code yJ9_min_7cf53 cJ9_min_7cf53 2 (some .int) :: ([])
def wsJ9_min_f86c9 : List Cond := .code yJ9_min_f86c9 cJ9_min_f86c9 4 (some .long) :: ([])
theorem inJ6 : ∀ w ∈ wsJ60, w ∈ lw_tbl := by decide +kernel
theorem inJ13 : ∀ w ∈ wsJ130, w ∈ lw_tbl := by decide +kernel
theorem inJ9 : ∀ w ∈ wsJ90, w ∈ lw_tbl := by decide +kernel
theorem dJ6_numberOfLeadingZeros_0f7a4_0 : decode cJ6_numberOfLeadingZeros_0f7a4 0 = .ok (.iload_n 0, 1) := by decide +kernel
theorem dJ6_numberOfLeadingZeros_0f7a4_1 : decode cJ6_numberOfLeadingZeros_0f7a4 1 = .ok (.ifCond .gt 14, 3) := by decide +kernel
theorem dJ6_numberOfLeadingZeros_0f7a4_4 : decode cJ6_numberOfLeadingZeros_0f7a4 4 = .ok (.iload_n 0, 1) := by decide +kernel
theorem dJ6_numberOfLeadingZeros_0f7a4_5 : decode cJ6_numberOfLeadingZeros_0f7a4 5 = .ok (.ifCond .ne 8, 3) := by decide +kernel
theorem dJ6_numberOfLeadingZeros_0f7a4_8 : decode cJ6_numberOfLeadingZeros_0f7a4 8 = .ok (.bipush 32, 2) := by decide +kernel
theorem dJ6_numberOfLeadingZeros_0f7a4_10 : decode cJ6_numberOfLeadingZeros_0f7a4 10 = .ok (.goto 4, 3) := by decide +kernel
theorem dJ6_numberOfLeadingZeros_0f7a4_13 : decode cJ6_numberOfLeadingZeros_0f7a4 13 = .ok (.iconst 0, 1) := by decide +kernel
theorem dJ6_numberOfLeadingZeros_0f7a4_14 : decode cJ6_numberOfLeadingZeros_0f7a4 14 = .ok (.ireturn, 1) := by decide +kernel
theorem dJ6_numberOfLeadingZeros_0f7a4_15 : decode cJ6_numberOfLeadingZeros_0f7a4 15 = .ok (.bipush 31, 2) := by decide +kernel
theorem dJ6_numberOfLeadingZeros_0f7a4_17 : decode cJ6_numberOfLeadingZeros_0f7a4 17 = .ok (.istore_n 1, 1) := by decide +kernel
theorem dJ6_numberOfLeadingZeros_0f7a4_18 : decode cJ6_numberOfLeadingZeros_0f7a4 18 = .ok (.iload_n 0, 1) := by decide +kernel
theorem dJ6_numberOfLeadingZeros_0f7a4_19 : decode cJ6_numberOfLeadingZeros_0f7a4 19 = .ok (.ldc_w 264, 3) := by decide +kernel
theorem dJ6_numberOfLeadingZeros_0f7a4_22 : decode cJ6_numberOfLeadingZeros_0f7a4 22 = .ok (.if_icmp .lt 11, 3) := by decide +kernel
theorem dJ6_numberOfLeadingZeros_0f7a4_25 : decode cJ6_numberOfLeadingZeros_0f7a4 25 = .ok (.iinc 1 (-16), 3) := by decide +kernel
theorem dJ6_numberOfLeadingZeros_0f7a4_28 : decode cJ6_numberOfLeadingZeros_0f7a4 28 = .ok (.iload_n 0, 1) := by decide +kernel
theorem dJ6_numberOfLeadingZeros_0f7a4_29 : decode cJ6_numberOfLeadingZeros_0f7a4 29 = .ok (.bipush 16, 2) := by decide +kernel
theorem dJ6_numberOfLeadingZeros_0f7a4_31 : decode cJ6_numberOfLeadingZeros_0f7a4 31 = .ok (.iushr, 1) := by decide +kernel
theorem dJ6_numberOfLeadingZeros_0f7a4_32 : decode cJ6_numberOfLeadingZeros_0f7a4 32 = .ok (.istore_n 0, 1) := by decide +kernel
theorem dJ6_numberOfLeadingZeros_0f7a4_33 : decode cJ6_numberOfLeadingZeros_0f7a4 33 = .ok (.iload_n 0, 1) := by decide +kernel
theorem dJ6_numberOfLeadingZeros_0f7a4_34 : decode cJ6_numberOfLeadingZeros_0f7a4 34 = .ok (.sipush 256, 3) := by decide +kernel
theorem dJ6_numberOfLeadingZeros_0f7a4_37 : decode cJ6_numberOfLeadingZeros_0f7a4 37 = .ok (.if_icmp .lt 11, 3) := by decide +kernel
theorem dJ6_numberOfLeadingZeros_0f7a4_40 : decode cJ6_numberOfLeadingZeros_0f7a4 40 = .ok (.iinc 1 (-8), 3) := by decide +kernel
theorem dJ6_numberOfLeadingZeros_0f7a4_43 : decode cJ6_numberOfLeadingZeros_0f7a4 43 = .ok (.iload_n 0, 1) := by decide +kernel
theorem dJ6_numberOfLeadingZeros_0f7a4_44 : decode cJ6_numberOfLeadingZeros_0f7a4 44 = .ok (.bipush 8, 2) := by decide +kernel
theorem dJ6_numberOfLeadingZeros_0f7a4_46 : decode cJ6_numberOfLeadingZeros_0f7a4 46 = .ok (.iushr, 1) := by decide +kernel
theorem dJ6_numberOfLeadingZeros_0f7a4_47 : decode cJ6_numberOfLeadingZeros_0f7a4 47 = .ok (.istore_n 0, 1) := by decide +kernel
theorem dJ6_numberOfLeadingZeros_0f7a4_48 : decode cJ6_numberOfLeadingZeros_0f7a4 48 = .ok (.iload_n 0, 1) := by decide +kernel
theorem dJ6_numberOfLeadingZeros_0f7a4_49 : decode cJ6_numberOfLeadingZeros_0f7a4 49 = .ok (.bipush 16, 2) := by decide +kernel
theorem dJ6_numberOfLeadingZeros_0f7a4_51 : decode cJ6_numberOfLeadingZeros_0f7a4 51 = .ok (.if_icmp .lt 10, 3) := by decide +kernel
theorem dJ6_numberOfLeadingZeros_0f7a4_54 : decode cJ6_numberOfLeadingZeros_0f7a4 54 = .ok (.iinc 1 (-4), 3) := by decide +kernel
theorem dJ6_numberOfLeadingZeros_0f7a4_57 : decode cJ6_numberOfLeadingZeros_0f7a4 57 = .ok (.iload_n 0, 1) := by decide +kernel
theorem dJ6_numberOfLeadingZeros_0f7a4_58 : decode cJ6_numberOfLeadingZeros_0f7a4 58 = .ok (.iconst 4, 1) := by decide +kernel
theorem dJ6_numberOfLeadingZeros_0f7a4_59 : decode cJ6_numberOfLeadingZeros_0f7a4 59 = .ok (.iushr, 1) := by decide +kernel
theorem dJ6_numberOfLeadingZeros_0f7a4_60 : decode cJ6_numberOfLeadingZeros_0f7a4 60 = .ok (.istore_n 0, 1) := by decide +kernel
theorem dJ6_numberOfLeadingZeros_0f7a4_61 : decode cJ6_numberOfLeadingZeros_0f7a4 61 = .ok (.iload_n 0, 1) := by decide +kernel
theorem dJ6_numberOfLeadingZeros_0f7a4_62 : decode cJ6_numberOfLeadingZeros_0f7a4 62 = .ok (.iconst 4, 1) := by decide +kernel
theorem dJ6_numberOfLeadingZeros_0f7a4_63 : decode cJ6_numberOfLeadingZeros_0f7a4 63 = .ok (.if_icmp .lt 10, 3) := by decide +kernel
theorem dJ6_numberOfLeadingZeros_0f7a4_66 : decode cJ6_numberOfLeadingZeros_0f7a4 66 = .ok (.iinc 1 (-2), 3) := by decide +kernel
theorem dJ6_numberOfLeadingZeros_0f7a4_69 : decode cJ6_numberOfLeadingZeros_0f7a4 69 = .ok (.iload_n 0, 1) := by decide +kernel
theorem dJ6_numberOfLeadingZeros_0f7a4_70 : decode cJ6_numberOfLeadingZeros_0f7a4 70 = .ok (.iconst 2, 1) := by decide +kernel
theorem dJ6_numberOfLeadingZeros_0f7a4_71 : decode cJ6_numberOfLeadingZeros_0f7a4 71 = .ok (.iushr, 1) := by decide +kernel
theorem dJ6_numberOfLeadingZeros_0f7a4_72 : decode cJ6_numberOfLeadingZeros_0f7a4 72 = .ok (.istore_n 0, 1) := by decide +kernel
theorem dJ6_numberOfLeadingZeros_0f7a4_73 : decode cJ6_numberOfLeadingZeros_0f7a4 73 = .ok (.iload_n 1, 1) := by decide +kernel
theorem dJ6_numberOfLeadingZeros_0f7a4_74 : decode cJ6_numberOfLeadingZeros_0f7a4 74 = .ok (.iload_n 0, 1) := by decide +kernel
theorem dJ6_numberOfLeadingZeros_0f7a4_75 : decode cJ6_numberOfLeadingZeros_0f7a4 75 = .ok (.iconst 1, 1) := by decide +kernel
theorem dJ6_numberOfLeadingZeros_0f7a4_76 : decode cJ6_numberOfLeadingZeros_0f7a4 76 = .ok (.iushr, 1) := by decide +kernel
theorem dJ6_numberOfLeadingZeros_0f7a4_77 : decode cJ6_numberOfLeadingZeros_0f7a4 77 = .ok (.isub, 1) := by decide +kernel
theorem dJ6_numberOfLeadingZeros_0f7a4_78 : decode cJ6_numberOfLeadingZeros_0f7a4 78 = .ok (.ireturn, 1) := by decide +kernel
theorem dJ6_rotateLeft_7cf53_0 : decode cJ6_rotateLeft_7cf53 0 = .ok (.iload_n 0, 1) := by decide +kernel
theorem dJ6_rotateLeft_7cf53_1 : decode cJ6_rotateLeft_7cf53 1 = .ok (.iload_n 1, 1) := by decide +kernel
theorem dJ6_rotateLeft_7cf53_2 : decode cJ6_rotateLeft_7cf53 2 = .ok (.ishl, 1) := by decide +kernel
theorem dJ6_rotateLeft_7cf53_3 : decode cJ6_rotateLeft_7cf53 3 = .ok (.iload_n 0, 1) := by decide +kernel
theorem dJ6_rotateLeft_7cf53_4 : decode cJ6_rotateLeft_7cf53 4 = .ok (.iload_n 1, 1) := by decide +kernel
theorem dJ6_rotateLeft_7cf53_5 : decode cJ6_rotateLeft_7cf53 5 = .ok (.ineg, 1) := by decide +kernel
theorem dJ6_rotateLeft_7cf53_6 : decode cJ6_rotateLeft_7cf53 6 = .ok (.iushr, 1) := by decide +kernel
theorem dJ6_rotateLeft_7cf53_7 : decode cJ6_rotateLeft_7cf53 7 = .ok (.ior, 1) := by decide +kernel
theorem dJ6_rotateLeft_7cf53_8 : decode cJ6_rotateLeft_7cf53 8 = .ok (.ireturn, 1) := by decide +kernel
theorem dJ13_numberOfLeadingZeros_95d88_0 : decode cJ13_numberOfLeadingZeros_95d88 0 = .ok (.lload_n 0, 1) := by decide +kernel
theorem dJ13_numberOfLeadingZeros_95d88_1 : decode cJ13_numberOfLeadingZeros_95d88 1 = .ok (.bipush 32, 2) := by decide +kernel
theorem dJ13_numberOfLeadingZeros_95d88_3 : decode cJ13_numberOfLeadingZeros_95d88 3 = .ok (.lushr, 1) := by decide +kernel
theorem dJ13_numberOfLeadingZeros_95d88_4 : decode cJ13_numberOfLeadingZeros_95d88 4 = .ok (.l2i, 1) := by decide +kernel
theorem dJ13_numberOfLeadingZeros_95d88_5 : decode cJ13_numberOfLeadingZeros_95d88 5 = .ok (.istore_n 2, 1) := by decide +kernel
theorem dJ13_numberOfLeadingZeros_95d88_6 : decode cJ13_numberOfLeadingZeros_95d88 6 = .ok (.iload_n 2, 1) := by decide +kernel
theorem dJ13_numberOfLeadingZeros_95d88_7 : decode cJ13_numberOfLeadingZeros_95d88 7 = .ok (.ifCond .ne 14, 3) := by decide +kernel
theorem dJ13_numberOfLeadingZeros_95d88_10 : decode cJ13_numberOfLeadingZeros_95d88 10 = .ok (.bipush 32, 2) := by decide +kernel
theorem dJ13_numberOfLeadingZeros_95d88_12 : decode cJ13_numberOfLeadingZeros_95d88 12 = .ok (.lload_n 0, 1) := by decide +kernel
theorem dJ13_numberOfLeadingZeros_95d88_13 : decode cJ13_numberOfLeadingZeros_95d88 13 = .ok (.l2i, 1) := by decide +kernel
theorem dJ13_numberOfLeadingZeros_95d88_14 : decode cJ13_numberOfLeadingZeros_95d88 14 = .ok (.invokestatic 308, 3) := by decide +kernel
theorem dJ13_numberOfLeadingZeros_95d88_17 : decode cJ13_numberOfLeadingZeros_95d88 17 = .ok (.iadd, 1) := by decide +kernel
theorem dJ13_numberOfLeadingZeros_95d88_18 : decode cJ13_numberOfLeadingZeros_95d88 18 = .ok (.goto 7, 3) := by decide +kernel
theorem dJ13_numberOfLeadingZeros_95d88_21 : decode cJ13_numberOfLeadingZeros_95d88 21 = .ok (.iload_n 2, 1) := by decide +kernel
theorem dJ13_numberOfLeadingZeros_95d88_22 : decode cJ13_numberOfLeadingZeros_95d88 22 = .ok (.invokestatic 308, 3) := by decide +kernel
theorem dJ13_numberOfLeadingZeros_95d88_25 : decode cJ13_numberOfLeadingZeros_95d88 25 = .ok (.ireturn, 1) := by decide +kernel
theorem dJ9_floorDiv_f86c9_0 : decode cJ9_floorDiv_f86c9 0 = .ok (.lload_n 0, 1) := by decide +kernel
theorem dJ9_floorDiv_f86c9_1 : decode cJ9_floorDiv_f86c9 1 = .ok (.lload_n 2, 1) := by decide +kernel
theorem dJ9_floorDiv_f86c9_2 : decode cJ9_floorDiv_f86c9 2 = .ok (.ldiv, 1) := by decide +kernel
theorem dJ9_floorDiv_f86c9_3 : decode cJ9_floorDiv_f86c9 3 = .ok (.lstore 4, 2) := by decide +kernel
theorem dJ9_floorDiv_f86c9_5 : decode cJ9_floorDiv_f86c9 5 = .ok (.lload_n 0, 1) := by decide +kernel
theorem dJ9_floorDiv_f86c9_6 : decode cJ9_floorDiv_f86c9 6 = .ok (.lload_n 2, 1) := by decide +kernel
theorem dJ9_floorDiv_f86c9_7 : decode cJ9_floorDiv_f86c9 7 = .ok (.lxor, 1) := by decide +kernel
theorem dJ9_floorDiv_f86c9_8 : decode cJ9_floorDiv_f86c9 8 = .ok (.lconst 0, 1) := by decide +kernel
theorem dJ9_floorDiv_f86c9_9 : decode cJ9_floorDiv_f86c9 9 = .ok (.lcmp, 1) := by decide +kernel
theorem dJ9_floorDiv_f86c9_10 : decode cJ9_floorDiv_f86c9 10 = .ok (.ifCond .ge 17, 3) := by decide +kernel
theorem dJ9_floorDiv_f86c9_13 : decode cJ9_floorDiv_f86c9 13 = .ok (.lload 4, 2) := by decide +kernel
theorem dJ9_floorDiv_f86c9_15 : decode cJ9_floorDiv_f86c9 15 = .ok (.lload_n 2, 1) := by decide +kernel
theorem dJ9_floorDiv_f86c9_16 : decode cJ9_floorDiv_f86c9 16 = .ok (.lmul, 1) := by decide +kernel
theorem dJ9_floorDiv_f86c9_17 : decode cJ9_floorDiv_f86c9 17 = .ok (.lload_n 0, 1) := by decide +kernel
theorem dJ9_floorDiv_f86c9_18 : decode cJ9_floorDiv_f86c9 18 = .ok (.lcmp, 1) := by decide +kernel
theorem dJ9_floorDiv_f86c9_19 : decode cJ9_floorDiv_f86c9 19 = .ok (.ifCond .eq 8, 3) := by decide +kernel
theorem dJ9_floorDiv_f86c9_22 : decode cJ9_floorDiv_f86c9 22 = .ok (.lload 4, 2) := by decide +kernel
theorem dJ9_floorDiv_f86c9_24 : decode cJ9_floorDiv_f86c9 24 = .ok (.lconst 1, 1) := by decide +kernel
theorem dJ9_floorDiv_f86c9_25 : decode cJ9_floorDiv_f86c9 25 = .ok (.lsub, 1) := by decide +kernel
theorem dJ9_floorDiv_f86c9_26 : decode cJ9_floorDiv_f86c9 26 = .ok (.lreturn, 1) := by decide +kernel
theorem dJ9_floorDiv_f86c9_27 : decode cJ9_floorDiv_f86c9 27 = .ok (.lload 4, 2) := by decide +kernel
theorem dJ9_floorDiv_f86c9_29 : decode cJ9_floorDiv_f86c9 29 = .ok (.lreturn, 1) := by decide +kernel
theorem dJ9_abs_067f4_0 : decode cJ9_abs_067f4 0 = .ok (.lload_n 0, 1) := by decide +kernel
theorem dJ9_abs_067f4_1 : decode cJ9_abs_067f4 1 = .ok (.lconst 0, 1) := by decide +kernel
theorem dJ9_abs_067f4_2 : decode cJ9_abs_067f4 2 = .ok (.lcmp, 1) := by decide +kernel
theorem dJ9_abs_067f4_3 : decode cJ9_abs_067f4 3 = .ok (.ifCond .ge 8, 3) := by decide +kernel
theorem dJ9_abs_067f4_6 : decode cJ9_abs_067f4 6 = .ok (.lload_n 0, 1) := by decide +kernel
theorem dJ9_abs_067f4_7 : decode cJ9_abs_067f4 7 = .ok (.lneg, 1) := by decide +kernel
theorem dJ9_abs_067f4_8 : decode cJ9_abs_067f4 8 = .ok (.goto 4, 3) := by decide +kernel
theorem dJ9_abs_067f4_11 : decode cJ9_abs_067f4 11 = .ok (.lload_n 0, 1) := by decide +kernel
theorem dJ9_abs_067f4_12 : decode cJ9_abs_067f4 12 = .ok (.lreturn, 1) := by decide +kernel
theorem dJ9_max_7cf53_0 : decode cJ9_max_7cf53 0 = .ok (.iload_n 0, 1) := by decide +kernel
theorem dJ9_max_7cf53_1 : decode cJ9_max_7cf53 1 = .ok (.iload_n 1, 1) := by decide +kernel
theorem dJ9_max_7cf53_2 : decode cJ9_max_7cf53 2 = .ok (.if_icmp .lt 7, 3) := by decide +kernel
theorem dJ9_max_7cf53_5 : decode cJ9_max_7cf53 5 = .ok (.iload_n 0, 1) := by decide +kernel
theorem dJ9_max_7cf53_6 : decode cJ9_max_7cf53 6 = .ok (.goto 4, 3) := by decide +kernel
theorem dJ9_max_7cf53_9 : decode cJ9_max_7cf53 9 = .ok (.iload_n 1, 1) := by decide +kernel
theorem dJ9_max_7cf53_10 : decode cJ9_max_7cf53 10 = .ok (.ireturn, 1) := by decide +kernel
theorem dJ9_max_f86c9_0 : decode cJ9_max_f86c9 0 = .ok (.lload_n 0, 1) := by decide +kernel
theorem dJ9_max_f86c9_1 : decode cJ9_max_f86c9 1 = .ok (.lload_n 2, 1) := by decide +kernel
theorem dJ9_max_f86c9_2 : decode cJ9_max_f86c9 2 = .ok (.lcmp, 1) := by decide +kernel
theorem dJ9_max_f86c9_3 : decode cJ9_max_f86c9 3 = .ok (.ifCond .lt 7, 3) := by decide +kernel
theorem dJ9_max_f86c9_6 : decode cJ9_max_f86c9 6 = .ok (.lload_n 0, 1) := by decide +kernel
theorem dJ9_max_f86c9_7 : decode cJ9_max_f86c9 7 = .ok (.goto 4, 3) := by decide +kernel
theorem dJ9_max_f86c9_10 : decode cJ9_max_f86c9 10 = .ok (.lload_n 2, 1) := by decide +kernel
theorem dJ9_max_f86c9_11 : decode cJ9_max_f86c9 11 = .ok (.lreturn, 1) := by decide +kernel
theorem dJ9_min_7cf53_0 : decode cJ9_min_7cf53 0 = .ok (.iload_n 0, 1) := by decide +kernel
theorem dJ9_min_7cf53_1 : decode cJ9_min_7cf53 1 = .ok (.iload_n 1, 1) := by decide +kernel
theorem dJ9_min_7cf53_2 : decode cJ9_min_7cf53 2 = .ok (.if_icmp .gt 7, 3) := by decide +kernel
theorem dJ9_min_7cf53_5 : decode cJ9_min_7cf53 5 = .ok (.iload_n 0, 1) := by decide +kernel
theorem dJ9_min_7cf53_6 : decode cJ9_min_7cf53 6 = .ok (.goto 4, 3) := by decide +kernel
theorem dJ9_min_7cf53_9 : decode cJ9_min_7cf53 9 = .ok (.iload_n 1, 1) := by decide +kernel
theorem dJ9_min_7cf53_10 : decode cJ9_min_7cf53 10 = .ok (.ireturn, 1) := by decide +kernel
theorem dJ9_min_f86c9_0 : decode cJ9_min_f86c9 0 = .ok (.lload_n 0, 1) := by decide +kernel
theorem dJ9_min_f86c9_1 : decode cJ9_min_f86c9 1 = .ok (.lload_n 2, 1) := by decide +kernel
theorem dJ9_min_f86c9_2 : decode cJ9_min_f86c9 2 = .ok (.lcmp, 1) := by decide +kernel
theorem dJ9_min_f86c9_3 : decode cJ9_min_f86c9 3 = .ok (.ifCond .gt 7, 3) := by decide +kernel
theorem dJ9_min_f86c9_6 : decode cJ9_min_f86c9 6 = .ok (.lload_n 0, 1) := by decide +kernel
theorem dJ9_min_f86c9_7 : decode cJ9_min_f86c9 7 = .ok (.goto 4, 3) := by decide +kernel
theorem dJ9_min_f86c9_10 : decode cJ9_min_f86c9 10 = .ok (.lload_n 2, 1) := by decide +kernel
theorem dJ9_min_f86c9_11 : decode cJ9_min_f86c9 11 = .ok (.lreturn, 1) := by decide +kernel
abbrev vwCl : List vw_C := [(RX0, TX0, 3), (RX1, TX1, 7), (RX2, TX2, 8), (RX3, TX3, 13), (RX4, TX4, 14), (RX5, TX5, 10), (RX6, TX6, 7), (RX7, TX7, 14), (RX8, TX8, 7), (RX9, TX9, 9), (RX10, TX10, 9), (RX11, TX11, 20), (RX12, TX12, 135)]
theorem mem_ps {big ws : List Cond} (ps : List Nat) (hp : ws = ps.filterMap (fun i => big[i]?)) : ∀ w ∈ ws, w ∈ big := by
  intro w hw
  rw [hp] at hw
  obtain ⟨i, -, hi⟩ := List.mem_filterMap.mp hw
  exact List.mem_of_getElem? hi
set_option maxRecDepth 100000 in
theorem inX0 : ∀ w ∈ wsX00, w ∈ lw_tbl := mem_ps [201, 203, 205] (by decide +kernel)
set_option maxRecDepth 100000 in
theorem inX1 : ∀ w ∈ wsX10, w ∈ lw_tbl := mem_ps [515, 517, 519, 521, 523, 525, 527] (by decide +kernel)
set_option maxRecDepth 100000 in
theorem inX2 : ∀ w ∈ wsX20, w ∈ lw_tbl := mem_ps [439, 441, 443, 445, 447, 449, 451, 453] (by decide +kernel)
set_option maxRecDepth 100000 in
theorem inX3 : ∀ w ∈ wsX30, w ∈ lw_tbl := mem_ps [999, 1001, 1003, 1005, 1007, 1009, 1011, 1013, 1015, 1017, 1019, 1021, 1023] (by decide +kernel)
set_option maxRecDepth 100000 in
theorem inX4 : ∀ w ∈ wsX40, w ∈ lw_tbl := mem_ps [393, 395, 397, 399, 401, 403, 405, 407, 409, 411, 413, 415, 417, 419] (by decide +kernel)
set_option maxRecDepth 100000 in
theorem inX5 : ∀ w ∈ wsX50, w ∈ lw_tbl := mem_ps [477, 479, 481, 483, 485, 487, 489, 491, 493, 495] (by decide +kernel)
set_option maxRecDepth 100000 in
theorem inX6 : ∀ w ∈ wsX60, w ∈ lw_tbl := mem_ps [222, 224, 226, 228, 230, 232, 234] (by decide +kernel)
set_option maxRecDepth 100000 in
theorem inX7 : ∀ w ∈ wsX70, w ∈ lw_tbl := mem_ps [293, 295, 297, 299, 301, 303, 305, 307, 309, 311, 313, 315, 317, 319] (by decide +kernel)
set_option maxRecDepth 100000 in
theorem inX8 : ∀ w ∈ wsX80, w ∈ lw_tbl := mem_ps [257, 259, 261, 263, 265, 267, 269] (by decide +kernel)
set_option maxRecDepth 100000 in
theorem inX9 : ∀ w ∈ wsX90, w ∈ lw_tbl := mem_ps [346, 348, 350, 352, 354, 356, 358, 360, 362] (by decide +kernel)
set_option maxRecDepth 100000 in
theorem inX10 : ∀ w ∈ wsX100, w ∈ lw_tbl := mem_ps [640, 642, 644, 646, 648, 650, 652, 654, 656] (by decide +kernel)
set_option maxRecDepth 100000 in
theorem inX11 : ∀ w ∈ wsX110, w ∈ lw_tbl := mem_ps [550, 552, 554, 556, 558, 560, 562, 564, 566, 568, 570, 572, 574, 576, 578, 580, 582, 584, 586, 588] (by decide +kernel)
set_option maxRecDepth 100000 in
theorem inX12 : ∀ w ∈ wsX120, w ∈ lw_tbl := mem_ps [1911, 1913, 1915, 1917, 1919, 1921, 1923, 1925, 1927, 1929, 1931, 1933, 1935, 1937, 1939, 1941, 1943, 1945, 1947, 1949, 1951, 1953, 1955, 1957, 1959, 1961, 1963, 1965, 1967, 1969, 1971, 1973, 1975, 1977, 1979, 1981, 1983, 1985, 1987, 1989, 1991, 1993, 1995, 1997, 1999, 2001, 2003, 2005, 2007, 2009, 2011, 2013, 2015, 2017, 2019, 2021, 2023, 2025, 2027, 2029, 2031, 2033, 2035, 2037, 2039, 2041, 2043, 2045, 2047, 2049, 2051, 2053, 2055, 2057, 2059, 2061, 2063, 2065, 2067, 2069, 2071, 2073, 2075, 2077, 2079, 2081, 2083, 2085, 2087, 2089, 2091, 2093, 2095, 2097, 2099, 2101, 2103, 2105, 2107, 2109, 2111, 2113, 2115, 2117, 2119, 2121, 2123, 2125, 2127, 2129, 2131, 2133, 2135, 2137, 2139, 2141, 2143, 2145, 2147, 2149, 2151, 2153, 2155, 2157, 2159, 2161, 2163, 2165, 2167, 2169, 2171, 2173, 2175, 2177, 2179] (by decide +kernel)
