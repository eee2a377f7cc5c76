/-! ===== new T[n][k] ===== -/
def mkM (σ : Shp) (t n k : Nat) : Shp := ((nxx σ + (1 + n), slx σ + (n + n * k)), fun b => if b = nxx σ + 4 then t else if nxx σ + 5 ≤ b ∧ b < nxx σ + 5 + n then t - 8 else kdx σ b, fun b => if b = nxx σ + 4 then n else if nxx σ + 5 ≤ b ∧ b < nxx σ + 5 + n then k else lnx σ b)
def mRr (R : Nat → Nat → Option Nat) (a n : Nat) : Nat → Nat → Option Nat := fun b j => if b = a ∧ j < n then some (a + 1 + j) else R b j
theorem Lex_mkM {σ σ1 : Shp} {t n k : Nat} (h : Lex (mkM σ t n k) σ1) : Lex σ σ1 := ⟨Nat.le_trans (Nat.le_add_right _ _) h.1, Nat.le_trans (Nat.le_add_right _ _) h.2⟩
section RWM
variable {G : Gx} {l : Launch} {y : MethodName} {cc : ByteArray} {nL : Nat} {rty : Option FieldType} {Ex : State → Prop} {RR : Room} {σ0 : Shp} {QQ : List Frame → Array Value → State → State → Prop} {pc : Nat} {L : List (Nat × SV)} {S : List SV} {σ : Shp} {I : Nat → Nat → Int32} {J : Nat → Nat → Int64} {D : Nat → Nat → UInt64} {R : Nat → Nat → Option Nat}
theorem r_multi {i t : Nat} {n k : Int32} {ty : FieldType} (hd : decode cc pc = .ok (.multianewarray i 2, 4)) (ht : (t = 28 ∧ ty = .int) ∨ (t = 29 ∧ ty = .long)) (hcl : Cond.classLink y.cls i ("[" ++ (FieldType.array ty).toString) ∈ tGd) (harr : Cond.arrayClass ty ∈ tGd) (hn : ¬ n < 0) (hk : ¬ k < 0) (hn1 : n.toNatClampNeg ≤ 1000) (hk1 : k.toNatClampNeg ≤ 1000) (hb1 : nxx (mkM σ t n.toNatClampNeg k.toNatClampNeg) - nxx σ0 ≤ RR.cells) (hb2 : slx (mkM σ t n.toNatClampNeg k.toNatClampNeg) - slx σ0 ≤ RR.slots)
    (h : Wm G l y cc nL rty Ex RR σ0 QQ (mkM σ t n.toNatClampNeg k.toNatClampNeg, I, J, D, mRr R (nxx σ + 4) n.toNatClampNeg) (pc + 4) L (vR (some (nxx σ + 4)) :: S)) : Wm G l y cc nL rty Ex RR σ0 QQ (σ, I, J, D, R) pc L (vI k :: vI n :: S) := by
  intro p e s m args below meth c0 H locs ls C hB hP hl
  generalize hN : n.toNatClampNeg = N at *
  generalize hKK : k.toNatClampNeg = K at *
  have hb1 : nxx σ + (1 + N) - nxx σ0 ≤ RR.cells := hb1
  have hb2 : slx σ + (N + N * K) - slx σ0 ≤ RR.slots := hb2
  have hts := C.1.2.2.2.2
  have hKx := C.2.2.2.2.1
  have hK := hKx.1
  have hB' : nxx σ0 ≤ nxx σ ∧ slx σ0 ≤ slx σ ∧ nxx σ - nxx σ0 ≤ RR.cells ∧ slx σ - slx σ0 ≤ RR.slots := hB
  have hsz : H.size = G.2.2.1 + nxx σ := hP.1.2.1
  have had : adx G (nxx σ + 4) = H.size := by rw [hsz]; rfl
  have hAO : va_AOA ty s := by
    rcases ht with ⟨-, rfl⟩ | ⟨-, rfl⟩
    · exact hKx.2.2.2.2.1
    · exact hKx.2.2.2.2.2
  have hcy : s.vm.findClass (FieldType.array ty).toString = some (G.2.1 (t - 8)) := by
    rcases ht with ⟨rfl, rfl⟩ | ⟨rfl, rfl⟩
    · exact (hK.2 0 _ rfl).2
    · exact (hK.2 1 _ rfl).2
  have hcbt : componentBytes ty ≤ 8 := by
    rcases ht with ⟨-, rfl⟩ | ⟨-, rfl⟩ <;> decide
  have hdf : fits ty (defaultValue ty) = true := by rcases ht with ⟨-, rfl⟩ | ⟨-, rfl⟩ <;> rfl
  have hdd : (defaultValue ty).isDefault = true := by rcases ht with ⟨-, rfl⟩ | ⟨-, rfl⟩ <;> rfl
  intro T hT Xs
  obtain ⟨vm₁, cA, comp, -, fA, fC, hO, -, X', step⟩ := Xs.multianewarray2F C.1.1 C.1.2.2.2.1 (hts _ hcl) (va_AOA.use hAO) (hts _ harr) (g := F0 m pc ls ((vI k :: vI n :: S).map (cvx G))) rfl (by rw [C.1.2.1]; exact hd) rfl hn hk (by rw [hN]; exact Nat.le_trans (Nat.mul_le_mul hn1 (Nat.le_refl 4)) (by decide)) (by rw [hKK]; exact Nat.le_trans (Nat.mul_le_mul hk1 hcbt) (by decide)) (by rw [hKK]; exact Nat.le_trans hk1 (by decide)) hdf hdd (by show nxx σ - nxx σ0 + _ ≤ _; rw [hN]; omega) (by show slx σ - slx σ0 + _ ≤ _; rw [hN, hKK]; omega)
  rw [hN, hKK] at X' step
  have ec : some (G.2.1 (t - 8)) = some comp := hcy.symm.trans fC
  cases ec
  generalize hF : Jvm.Free.Multi.fill (T.setVm vm₁) cA (G.2.1 (t - 8)) N K (defaultValue ty) N = F at X' step
  have hTh : (T.setVm vm₁).heap = H := hT
  obtain ⟨f1, f2, -, -⟩ := Jvm.Free.Multi.fill_facts (T.setVm vm₁) cA (G.2.1 (t - 8)) N K (defaultValue ty) N
  rw [hF, hTh] at f1 f2
  have hold : ∀ x : Nat, x < H.size → F.heap[x]? = H[x]? := fun x hx => by
    have := Jvm.Free.Multi.fill_old (T.setVm vm₁) cA (G.2.1 (t - 8)) N K (defaultValue ty) (a := x) (by rw [hTh]; exact hx) N
    rw [hF, hTh] at this
    exact this
  have hrow : ∀ j : Nat, j < N → F.heap[H.size + 1 + j]? = some (Jvm.Free.Multi.innerC (G.2.1 (t - 8)) K (defaultValue ty)) := fun j hj => by
    have := Jvm.Free.Multi.fill_inner (T.setVm vm₁) cA (G.2.1 (t - 8)) N K (defaultValue ty) N j hj
    rw [hF, hTh] at this
    exact this
  rw [vr_outer] at f2
  have hcA : cA = G.2.1 t := by
    rcases ht with ⟨rfl, rfl⟩ | ⟨rfl, rfl⟩
    · exact Option.some.inj (fA.symm.trans (hK.2 8 _ rfl).2)
    · exact Option.some.inj (fA.symm.trans (hK.2 9 _ rfl).2)
  subst hcA
  obtain ⟨h1, h2, h3, h4, h5⟩ := hP.1
  have hz := fun b hb => (h5 b hb).2
  have kda : kdx (mkM σ t N K) (nxx σ + 4) = t := if_pos rfl
  have lna : lnx (mkM σ t N K) (nxx σ + 4) = N := if_pos rfl
  have kdi : ∀ j, j < N → kdx (mkM σ t N K) (nxx σ + 5 + j) = t - 8 := fun j hj => by
    show (if _ then _ else _) = _
    rw [if_neg (by omega), if_pos (by omega)]
  have lni : ∀ j, j < N → lnx (mkM σ t N K) (nxx σ + 5 + j) = K := fun j hj => by
    show (if _ then _ else _) = _
    rw [if_neg (by omega), if_pos (by omega)]
  have kdo : ∀ b, (b < nxx σ + 4 ∨ nxx σ + 5 + N ≤ b) → kdx (mkM σ t N K) b = kdx σ b ∧ lnx (mkM σ t N K) b = lnx σ b := fun b hb => by
    constructor
    · show (if _ then _ else _) = _
      rw [if_neg (by omega), if_neg (by omega)]
    · show (if _ then _ else _) = _
      rw [if_neg (by omega), if_neg (by omega)]
  have hsz1 : F.heap.size = H.size + 1 + N := by omega
  have hX1 : Hx G (mkM σ t N K, I, J, D, mRr R (nxx σ + 4) N) F.heap := by
    refine ⟨fun b hb hb0 => ?_, by show F.heap.size = G.2.2.1 + (nxx σ + (1 + N)); omega, by rw [(kdo 0 (by omega)).1]; exact h3, by rw [(kdo 0 (by omega)).2]; exact h4, fun b hb => ?_⟩
    · show 4 ≤ b ∧ b < nxx σ + (1 + N) + 4 ∧ _
      rcases (show (b < nxx σ + 4) ∨ b = nxx σ + 4 ∨ (nxx σ + 5 ≤ b ∧ b < nxx σ + 5 + N) ∨ nxx σ + 5 + N ≤ b by omega) with q | q | q | q
      · have ko := kdo b (Or.inl q)
        rw [ko.1] at hb
        obtain ⟨q1, q2, q3⟩ := h1 b hb hb0
        refine ⟨q1, by omega, ?_⟩
        rw [cEx_congr (X := (σ, I, J, D, R)) (X' := (mkM σ t N K, I, J, D, mRr R (nxx σ + 4) N)) ko.1 ko.2 rfl rfl rfl (funext fun j => if_neg (by omega))]
        refine q3.kept (hold _ ?_)
        show adx G b < H.size
        rw [adx_ge q1]
        omega
      · subst q
        refine ⟨by omega, by omega, ?_⟩
        rw [had, cEx_ref kda (by omega), lna]
        show F.heap[H.size]? = some (vp_cell _ _)
        rw [f2, vp_cell_q]
        congr 2
        funext j
        show va_rf _ = va_rf ((if nxx σ + 4 = nxx σ + 4 ∧ j < N then some (nxx σ + 4 + 1 + j) else R (nxx σ + 4) j).map (adx G))
        by_cases hj : j < N
        · rw [if_pos hj, if_pos ⟨rfl, hj⟩]
          show va_rf (some (H.size + 1 + j)) = va_rf (some (adx G (nxx σ + 4 + 1 + j)))
          rw [adx_ge (by omega)]
          congr 2
          omega
        · rw [if_neg hj, if_neg (fun q => hj q.2), show R (nxx σ + 4) j = none from ((hz (nxx σ + 4) (Nat.le_refl _)) j).2.2.2]
          rfl
      · obtain ⟨j, rfl⟩ : ∃ j, b = nxx σ + 5 + j := ⟨b - (nxx σ + 5), by omega⟩
        have hj : j < N := by omega
        refine ⟨by omega, by omega, ?_⟩
        have hadj : adx G (nxx σ + 5 + j) = H.size + 1 + j := by rw [adx_ge (by omega)]; omega
        rw [hadj]
        have hzj := hz (nxx σ + 5 + j) (by show nxx σ + 4 ≤ _; omega)
        rcases ht with ⟨rfl, rfl⟩ | ⟨rfl, rfl⟩
        · rw [cEx_int (kdi j hj) (by omega), lni j hj]
          show F.heap[_]? = some (vp_cell _ _)
          rw [hrow j hj, vp_cell_i]
          show some ({ cls := G.2.1 20, slots := Array.replicate K (.int 0), vm := .none } : Cell) = _
          rw [arrV_new]
          congr 2
          funext q
          show Value.int 0 = Value.int (I (nxx σ + 5 + j) q)
          rw [show I (nxx σ + 5 + j) q = 0 from (hzj q).1]
        · rw [cEx_long (kdi j hj), lni j hj]
          show F.heap[_]? = some (vp_cell _ _)
          rw [hrow j hj, vp_cell_l]
          show some ({ cls := G.2.1 21, slots := Array.replicate K (.long 0), vm := .none } : Cell) = _
          rw [arrV_new]
          congr 2
          funext q
          show Value.long 0 = Value.long (J (nxx σ + 5 + j) q)
          rw [show J (nxx σ + 5 + j) q = 0 from (hzj q).2.1]
      · rw [(kdo b (Or.inr q)).1, (h5 b (by show nxx σ + 4 ≤ b; omega)).1] at hb
        exact absurd rfl hb
    · have hb : nxx σ + (1 + N) + 4 ≤ b := hb
      obtain ⟨q1, q2⟩ := h5 b (by show nxx σ + 4 ≤ b; omega)
      refine ⟨by rw [(kdo b (by omega)).1]; exact q1, fun j => ?_⟩
      refine ⟨(q2 j).1, (q2 j).2.1, (q2 j).2.2.1, ?_⟩
      show (if b = nxx σ + 4 ∧ j < N then _ else _) = _
      rw [if_neg (by omega)]
      exact (q2 j).2.2.2
  obtain ⟨t2, a1, b1⟩ := h p e s m args below meth c0 F.heap locs ls C ⟨by show _ ≤ nxx σ + (1 + N); omega, by show _ ≤ slx σ + (N + N * K); omega, hb1, hb2⟩ ⟨hX1, vaS_new hP.2 (by omega) hold⟩ hl F rfl (by
    have en : nxx (mkM σ t N K) - nxx σ0 = nxx σ - nxx σ0 + 1 + N := by show nxx σ + (1 + N) - nxx σ0 = _; omega
    have es : slx (mkM σ t N K) - slx σ0 = slx σ - slx σ0 + N + N * K := by show slx σ + (N + N * K) - slx σ0 = _; omega
    show Stand p l e RR s m args below meth c0 F locs (nxx (mkM σ t N K) - nxx σ0) (slx (mkM σ t N K) - slx σ0)
    rw [en, es]
    exact X')
  refine ⟨t2, step t2 ?_, b1⟩
  have e8 : T.heap.size = H.size := by rw [hT]
  rw [e8, ← had]
  exact a1
end RWM
