theorem Con.mkF {G : Gx} {l : Launch} {y : MethodName} {cc : ByteArray} {nL : Nat} {rty : Option FieldType} {d w : Nat} {av : List SV} {X X1 : Stt} {rv : Option SV} {L : List (Nat × SV)} (hy : plainFor y = true) (hL : lav 0 av = L) (hn : (av.map ctx).sum ≤ nL)
    (h : Wm G l y cc nL rty (fun _ => True) (rmx d w X.1 X1.1) X.1 (Qmx G X.1 X1 rv) X 0 L []) : Con G l y cc nL rty d w av X X1 rv := by
  refine va_MetF (cc := cc) (maxL := nL) (ret := rty) hy rfl ?_
  intro p e s m args below meth c s₁ B hml hv
  obtain ⟨rfl, hX, hK, hS, hz⟩ := hv
  have hts := atoms_spec (ws := Cond.code y cc nL rty :: tGd) B.pre
  have hown : s.vm.findClass y.cls = some m.cls := findClass_of_methodNamed B.named
  have hl := lv_entry (av.map (cvx G)) (n := nL) (by rw [sl_len]; exact hn)
  rw [lg_entry_eq]
  generalize (lg_sl (av.map (cvx G)) ++ List.replicate (nL - (lg_sl (av.map (cvx G))).length) Slot.unset).toArray = ls at hl ⊢
  rw [lav_cv, hL] at hl
  have h7 := h p e s m (av.map (cvx G)).toArray below meth c s.heap [] ls ⟨⟨B.exec, B.bytes, hml, hown, fun w hw => hts w (List.mem_cons_of_mem _ hw)⟩, B.returns, B.notSynchronized, (name_of_methodNamed B.named B.method).1, hK, hS, hz, trivial⟩ ⟨Nat.le_refl _, Nat.le_refl _, by rw [Nat.sub_self]; exact Nat.zero_le _, by rw [Nat.sub_self]; exact Nat.zero_le _⟩ ⟨hX, va_S.rf⟩ hl
  rw [Nat.sub_self, Nat.sub_self] at h7
  exact h7
theorem itz {c : Prop} [Decidable c] {a b : Int32} (ha : a = 0 ∨ a = 1) (hb : b = 0 ∨ b = 1) : (if c then a else b) = 0 ∨ (if c then a else b) = 1 := by
  by_cases h : c
  · rw [if_pos h]; exact ha
  · rw [if_neg h]; exact hb
