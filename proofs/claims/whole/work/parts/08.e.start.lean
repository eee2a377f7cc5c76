/-! ===== the start: the world of the law's entry ===== -/
def kd0 : Nat → Nat := fun a => if a = 0 then 21 else 0
def shp0 : Shp := ((0, 0), kd0, fun _ => 0)
def st0x : Stt := (shp0, fun _ _ => 0, fun _ _ => 0, fun _ _ => 0, fun _ _ => none)
theorem arr_of {args : Array Value} {s : State} {ty : FieldType} (h : (Cond.arrayClass ty).before args s = true) (hty : ∀ C, ty ≠ .object C) : ∃ cA : ClassId, ArrOfT s cA ty ∧ va_RA s cA ty := by
  obtain ⟨c, k, comp, h1, h2, h3⟩ := Cond.arrayClass_spec h
  refine ⟨c, fun n z => ⟨fun q hq => (by cases hq), k, h2, comp, h3⟩, ?_⟩
  cases ty <;> first | exact h1 | exact absurd rfl (hty _)
theorem arr_ofO {args : Array Value} {s : State} {C : String} (h : (Cond.arrayOver (.object C)).before args s = true) : ∃ cA : ClassId, ArrOfT s cA (.object C) ∧ va_RA s cA (.object C) := by
  obtain ⟨comp, c, k, h1, h2, h3, h4, h5⟩ := Cond.arrayOver_spec h
  exact ⟨c, fun n z => ⟨fun q hq => (by cases hq), k, h3, comp, h4⟩, k, comp, h3, h4, h1, h5⟩
theorem arr_ofA {args : Array Value} {s : State} {ty : FieldType} (h : (Cond.arrayOver (.array ty)).before args s = true) : ∃ cA : ClassId, ArrOfT s cA (.array ty) ∧ va_RA s cA (.array ty) := by
  obtain ⟨comp, c, k, h1, h2, h3, h4⟩ := Cond.arrayOver_specA h
  exact ⟨c, fun n z => ⟨fun q hq => (by cases hq), k, h2, comp, h3⟩, h4⟩
theorem st_int {args : Array Value} {s : State} {C n : String} {f : Nat → Int32} {A : Nat → Prop} (harr : (Cond.arrayOf (.static C n "[I") .int).before args s = true) (hlen : (Cond.eq (.length (.static C n "[I")) (.int 5)).before args s = true) (hel : ∀ j : Nat, j < 5 → (Cond.eq (.elem (.static C n "[I") (.int (Int32.ofNat j))) (.int (f j))).before args s = true) (hA : ∀ a : Nat, a < s.heap.size → ¬ A a) : ∃ t : Nat, (Term.static C n "[I").eval args s none [] s = some (.ref t) ∧ va_T .int t 5 (fun j => .int (f j)) A s s.heap :=
  va_Tof (N := 5) (by decide) harr (va_eqt hlen) (fun j hj => va_eqt (hel j hj)) hA
theorem five {P : Nat → Prop} (h0 : P 0) (h1 : P 1) (h2 : P 2) (h3 : P 3) (h4 : P 4) : ∀ j : Nat, j < 5 → P j := by
  intro j hj
  rcases (show j = 0 ∨ j = 1 ∨ j = 2 ∨ j = 3 ∨ j = 4 by omega) with rfl | rfl | rfl | rfl | rfl
  · exact h0
  · exact h1
  · exact h2
  · exact h3
  · exact h4
def lw_At (p : Program) (s : State) (m : MethodId) (meth : Method) (c : Code) (b L : Nat) (xs : Nat → Int32) : Prop :=
  p.tables.exec = Jvm.exec ∧ c.code = code ∧ meth.sig.returnType = ret ∧ c.maxLocals = 4 ∧ s.vm.findClass R_law = some m.cls ∧ (∀ w ∈ lw_tbl, w.before #[Value.ref b] s = true) ∧ va_X b L xs s s.heap ∧ b < s.heap.size ∧ meth.locks = false ∧ (Jvm.Cond.and given_1 narrow_1).before #[Value.ref b] s = true ∧ meth.name = "law"
theorem nest_on : ∀ w ∈ nestW, w.onTables = true := fun w hw => by
  have hn := (List.mem_filter.mp hw).2
  cases w <;> first | rfl | (cases hn)
set_option maxHeartbeats 4000000 in
set_option maxRecDepth 100000 in
/-- the world at the law's entry -/
theorem world0 {s : State} {b L : Nat} {xs : Nat → Int32} (hts : ∀ w ∈ lw_tbl, w.before #[Value.ref b] s = true) (hX : va_X b L xs s s.heap) (hbl : b < s.heap.size) (hgv : (Jvm.Cond.and given_1 narrow_1).before #[Value.ref b] s = true) : ∃ G : Gx, G.2.2.1 = s.heap.size ∧ G.2.2.2 3 = b ∧ Kx G s ∧ Sx G s s.heap := by
  have hg := flat_of_before _ hgv
  have hA : ∀ a : Nat, a < s.heap.size → ¬ (fun q : Nat => s.heap.size ≤ q) a := fun a h q => absurd h (Nat.not_lt.mpr q)
  obtain ⟨c0, i0, hK0⟩ := u_known (C := RX0) (T := TX0) (N := 3) (n := 3) hts inX0 (hts (.instantiable RX0 3) (tin1 (List.mem_of_getElem? (i := 34) rfl)))
  obtain ⟨c1, i1, hK1⟩ := u_known (C := RX1) (T := TX1) (N := 7) (n := 7) hts inX1 (hts (.instantiable RX1 7) (tin2 (List.mem_of_getElem? (i := 102) rfl)))
  obtain ⟨c2, i2, hK2⟩ := u_known (C := RX2) (T := TX2) (N := 8) (n := 8) hts inX2 (hts (.instantiable RX2 8) (tin2 (List.mem_of_getElem? (i := 27) rfl)))
  obtain ⟨c3, i3, hK3⟩ := u_known (C := RX3) (T := TX3) (N := 13) (n := 13) hts inX3 (hts (.instantiable RX3 13) (tin4 (List.mem_of_getElem? (i := 103) rfl)))
  obtain ⟨c4, i4, hK4⟩ := u_known (C := RX4) (T := TX4) (N := 14) (n := 14) hts inX4 (hts (.instantiable RX4 14) (tin1 (List.mem_of_getElem? (i := 166) rfl)))
  obtain ⟨c5, i5, hK5⟩ := u_known (C := RX5) (T := TX5) (N := 10) (n := 10) hts inX5 (hts (.instantiable RX5 10) (tin2 (List.mem_of_getElem? (i := 60) rfl)))
  obtain ⟨c6, i6, hK6⟩ := u_known (C := RX6) (T := TX6) (N := 7) (n := 7) hts inX6 (hts (.instantiable RX6 7) (tin1 (List.mem_of_getElem? (i := 53) rfl)))
  obtain ⟨c7, i7, hK7⟩ := u_known (C := RX7) (T := TX7) (N := 14) (n := 14) hts inX7 (hts (.instantiable RX7 14) (tin1 (List.mem_of_getElem? (i := 26) rfl)))
  obtain ⟨c8, i8, hK8⟩ := u_known (C := RX8) (T := TX8) (N := 7) (n := 7) hts inX8 (hts (.instantiable RX8 7) (tin1 (List.mem_of_getElem? (i := 81) rfl)))
  obtain ⟨c9, i9, hK9⟩ := u_known (C := RX9) (T := TX9) (N := 9) (n := 9) hts inX9 (hts (.instantiable RX9 9) (tin1 (List.mem_of_getElem? (i := 172) rfl)))
  obtain ⟨c10, i10, hK10⟩ := u_known (C := RX10) (T := TX10) (N := 9) (n := 9) hts inX10 (hts (.instantiable RX10 9) (tin2 (List.mem_of_getElem? (i := 217) rfl)))
  obtain ⟨c11, i11, hK11⟩ := u_known (C := RX11) (T := TX11) (N := 20) (n := 20) hts inX11 (hts (.instantiable RX11 20) (tin1 (List.mem_of_getElem? (i := 18) rfl)))
  obtain ⟨c12, i12, hK12⟩ := u_known (C := RX12) (T := TX12) (N := 135) (n := 135) hts inX12 (hts (.instantiable RX12 135) (tin7 (List.mem_of_getElem? (i := 168) rfl)))
  obtain ⟨a20, ha20, hr20⟩ := arr_of (hts (.arrayClass .int) (tin1 (List.mem_of_getElem? (i := 51) rfl))) (fun C q => by cases q)
  obtain ⟨a21, ha21, hr21⟩ := arr_of (hts (.arrayClass .long) (tin1 (List.mem_of_getElem? (i := 115) rfl))) (fun C q => by cases q)
  obtain ⟨a22, ha22, hr22⟩ := arr_of (hts (.arrayClass .byte) (tin9 (List.mem_of_getElem? (i := 105) rfl))) (fun C q => by cases q)
  obtain ⟨a23, ha23, hr23⟩ := arr_of (hts (.arrayClass .short) (tin9 (List.mem_of_getElem? (i := 106) rfl))) (fun C q => by cases q)
  obtain ⟨a24, ha24, hr24⟩ := arr_of (hts (.arrayClass .boolean) (tin1 (List.mem_of_getElem? (i := 208) rfl))) (fun C q => by cases q)
  obtain ⟨a25, ha25, hr25⟩ := arr_of (hts (.arrayClass .double) (tin2 (List.mem_of_getElem? (i := 25) rfl))) (fun C q => by cases q)
  have ho26 := hts (.arrayOver (.object "GlassHouse$Thing")) (tin1 (List.mem_of_getElem? (i := 32) rfl))
  obtain ⟨a26, ha26, hr26⟩ := arr_ofO ho26
  have ho27 := hts (.arrayOver (.object "GlassHouse$Frame")) (tin1 (List.mem_of_getElem? (i := 117) rfl))
  obtain ⟨a27, ha27, hr27⟩ := arr_ofO ho27
  have ho28 := hts (.arrayOver (.array .int)) (tin1 (List.mem_of_getElem? (i := 178) rfl))
  obtain ⟨a28, ha28, hr28⟩ := arr_ofA ho28
  have ho29 := hts (.arrayOver (.array .long)) (tin1 (List.mem_of_getElem? (i := 212) rfl))
  obtain ⟨a29, ha29, hr29⟩ := arr_ofA ho29
  obtain ⟨t0, ht0, hT0⟩ := va_Tof (tm := .static "GlassHouse" "NO_CELLS" "[J") (ty := .long) (N := 0) (f := fun _ => .long 0) (A := fun q : Nat => s.heap.size ≤ q) (by decide) (hg _ (by decide +kernel)) (va_eqt (hg (.eq (.length (.static "GlassHouse" "NO_CELLS" "[J")) (.int 0)) (by decide +kernel))) (fun j hj => absurd hj (Nat.not_lt_zero j)) hA
  obtain ⟨t1, ht1, hT1⟩ := st_int (C := "GlassHouse$Houses") (n := "LEAST") (f := LEASTc) (A := fun q : Nat => s.heap.size ≤ q) (hg _ (by decide +kernel)) (hg _ (by decide +kernel)) (five (hg _ (by decide +kernel)) (hg _ (by decide +kernel)) (hg _ (by decide +kernel)) (hg _ (by decide +kernel)) (hg _ (by decide +kernel))) hA
  obtain ⟨t2, ht2, hT2⟩ := st_int (C := "GlassHouse$Houses") (n := "MOST") (f := MOSTc) (A := fun q : Nat => s.heap.size ≤ q) (hg _ (by decide +kernel)) (hg _ (by decide +kernel)) (five (hg _ (by decide +kernel)) (hg _ (by decide +kernel)) (hg _ (by decide +kernel)) (hg _ (by decide +kernel)) (hg _ (by decide +kernel))) hA
  have hz0 := va_Zref (C := "GlassHouse") (n := "NO_CELLS") (d := "[J") (hts (.laysStatic "GlassHouse" "NO_CELLS" "[J") (tin3 (List.mem_of_getElem? (i := 34) rfl))) (hts (.initialized "GlassHouse") (tin1 (List.mem_of_getElem? (i := 1) rfl))) ht0 hA
  have hz1 := va_Zref (C := "GlassHouse$Houses") (n := "LEAST") (d := "[I") (hts (.laysStatic "GlassHouse$Houses" "LEAST" "[I") (tin5 (List.mem_of_getElem? (i := 193) rfl))) (hts (.initialized "GlassHouse$Houses") (tin1 (List.mem_of_getElem? (i := 6) rfl))) ht1 hA
  have hz2 := va_Zref (C := "GlassHouse$Houses") (n := "MOST") (d := "[I") (hts (.laysStatic "GlassHouse$Houses" "MOST" "[I") (tin5 (List.mem_of_getElem? (i := 195) rfl))) (hts (.initialized "GlassHouse$Houses") (tin1 (List.mem_of_getElem? (i := 6) rfl))) ht2 hA
  refine ⟨((fun k => match k with | 0 => c0 | 1 => c1 | 2 => c2 | 3 => c3 | 4 => c4 | 5 => c5 | 6 => c6 | 7 => c7 | 8 => c8 | 9 => c9 | 10 => c10 | 11 => c11 | _ => c12, fun k => match k with | 0 => i0 | 1 => i1 | 2 => i2 | 3 => i3 | 4 => i4 | 5 => i5 | 6 => i6 | 7 => i7 | 8 => i8 | 9 => i9 | 10 => i10 | 11 => i11 | _ => i12), fun k => match k with | 20 => a20 | 21 => a21 | 22 => a22 | 23 => a23 | 24 => a24 | 25 => a25 | 26 => a26 | 27 => a27 | 28 => a28 | _ => a29, s.heap.size, fun k => match k with | 0 => t0 | 1 => t1 | 2 => t2 | _ => b), rfl, rfl, ⟨⟨?_, ?_⟩, ?_, ho26, ho27, ho28, ho29⟩, hz0, hT0, hz1, hT1, hz2, hT2⟩
  · intro k q hq
    match k, hq with
    | 0, hq => cases hq; exact hK0
    | 1, hq => cases hq; exact hK1
    | 2, hq => cases hq; exact hK2
    | 3, hq => cases hq; exact hK3
    | 4, hq => cases hq; exact hK4
    | 5, hq => cases hq; exact hK5
    | 6, hq => cases hq; exact hK6
    | 7, hq => cases hq; exact hK7
    | 8, hq => cases hq; exact hK8
    | 9, hq => cases hq; exact hK9
    | 10, hq => cases hq; exact hK10
    | 11, hq => cases hq; exact hK11
    | 12, hq => cases hq; exact hK12
    | k + 13, hq => simp [vwCl] at hq
  · intro k q hq
    match k, hq with
    | 0, hq => cases hq; exact ⟨ha20, hr20⟩
    | 1, hq => cases hq; exact ⟨ha21, hr21⟩
    | 2, hq => cases hq; exact ⟨ha22, hr22⟩
    | 3, hq => cases hq; exact ⟨ha23, hr23⟩
    | 4, hq => cases hq; exact ⟨ha24, hr24⟩
    | 5, hq => cases hq; exact ⟨ha25, hr25⟩
    | 6, hq => cases hq; exact ⟨ha26, hr26⟩
    | 7, hq => cases hq; exact ⟨ha27, hr27⟩
    | 8, hq => cases hq; exact ⟨ha28, hr28⟩
    | 9, hq => cases hq; exact ⟨ha29, hr29⟩
    | k + 10, hq => simp [tysx] at hq
  · intro w hw
    exact va_Nw.of (nest_on w hw) (hts w (List.mem_filter.mp hw).1)
/-- THE LAW, from its entry, out of the pure statement -/
theorem whole_start_open (hpure : ∀ (L : Nat) (xs : Nat → Int32), L ≤ 3584 → fL_law xs L shp0 (fun _ _ => 0) (fun _ _ => 0) (fun _ _ => 0) (fun _ _ => none) = some ()) {p : Program} {e : Env} {s : State} {m : MethodId} {below : List Frame} {meth : Method} {c : Code} (l : Launch) {b L : Nat} {xs : Nat → Int32} (hL : L ≤ 3584) (C0 : lw_At p s m meth c b L xs) : W p l e room_1 s m #[Value.ref b] below meth c s.heap [] 0 0 (lw_Z below #[Value.ref b] s) (entryFrame m ([Value.ref b] : List Value).toArray 4) := by
  obtain ⟨hx, hb, hr, hml, hown, hts, hX, hbl, hlocks, hgv, hname⟩ := id C0
  obtain ⟨G, hz, h3, hK, hS⟩ := world0 hts hX hbl hgv
  have hw := kL_law (G := G) (l := l) (σ0 := shp0) (hpure L xs hL)
  have hl := lv_entry ([.ref b]) (n := 4) (Nat.le_of_ble_eq_true rfl)
  rw [lg_entry_eq]
  generalize (lg_sl ([.ref b]) ++ List.replicate (4 - (lg_sl ([.ref b])).length) Slot.unset).toArray = ls at hl ⊢
  have hl : lv_has ls 4 [(0, .ref b)] := hl
  have hl2 : lv_has ls 4 (cvL G [(0, vR (some 3))]) := by
    show lv_has ls 4 [(0, Value.ref (G.2.2.2 3))]
    rw [h3]
    exact hl
  refine hw p e s m #[Value.ref b] below meth c s.heap [] ls ⟨⟨hx, hb, hml, hown, fun w hw => hts w (List.mem_filter.mp hw).1⟩, hr, hlocks, hname, hK, hS, by rw [hz]; exact Nat.le_refl _, by rw [h3]; exact hX, by rw [h3]; exact hbl, by rw [hz]; exact Nat.le_refl _⟩ ⟨Nat.le_refl _, Nat.le_refl _, by rw [Nat.sub_self]; exact Nat.zero_le _, by rw [Nat.sub_self]; exact Nat.zero_le _⟩ ⟨⟨fun a ha ha0 => ?_, by rw [hz]; rfl, rfl, rfl, fun a ha => ⟨if_neg (by have : 0 + 4 ≤ a := ha; omega), fun k => ⟨rfl, rfl, rfl, rfl⟩⟩⟩, va_S.rf⟩ hl2
  exact absurd (if_neg ha0) ha

