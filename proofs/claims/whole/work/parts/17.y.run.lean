/-! ===== a run: TRY is left ===== -/
/-- the model's unwinding of a TRY's frame, by its part -/
theorem unT {n O : Nat → Nat} {A : Nat → Nat → Int32} {vd : Nat → Int32} {G : Nat → Nat → Nat} {N : Nat → Nat → Int32} {nb sb : Nat} {σ : Shp} {I : Nat → Nat → Int32} {J : Nat → Nat → Int64} {R : Nat → Nat → Option Nat} {I' : Nat → Nat → Int32} {J' : Nat → Nat → Int64} {fc : Nat → Nat} {E : Nat → Nat → Nat} {V : Nat → Nat → Int32} {σ' : Shp} {R' : Nat → Nat → Option Nat} {t st ch : Nat} (hb : PlB n O) (h : Core n O A vd G N nb sb σ I J R I' J' fc E V (t + 1) st ch) (eo : E t 0 = 16) (w : I 25 0 ≠ 0) : ∃ I0', I0' = u2 I' 114 42 (Int32.ofInt (t : Nat)) ∧ (E t 8 = 0 → gX12_unwind σ' I' J' R' = if I0' 114 59 = 1 then (gX12_isMet σ' I0' R' (Int32.ofInt (E t 1 : Nat)) (Int32.ofInt (E t 12 : Nat))).bind fun (I40, r41) => if r41 = 0 then (if I40 114 59 = 3 then some (I40, J') else (gX12_leave σ' I40 R' (Int32.ofInt (E t 1 : Nat)) (Int32.ofInt (E t 12 : Nat))).bind fun I43 => some (I43, J')) else some (I40, J') else if I0' 114 59 = 3 then some (I0', J') else (gX12_leave σ' I0' R' (Int32.ofInt (E t 1 : Nat)) (Int32.ofInt (E t 12 : Nat))).bind fun I38 => some (I38, J')) ∧ (E t 8 = 1 → gX12_unwind σ' I' J' R' = if I0' 114 59 = 3 then some (u2 I0' 114 63 (I0' 114 63), J') else (gX12_leave σ' (u2 I0' 114 63 (if I0' 114 59 = 1 then I0' 149 t else I0' 114 63)) R' (Int32.ofInt (E t 1 : Nat)) (Int32.ofInt (E t 12 : Nat))).bind fun I36 => some (I36, J')) ∧ (E t 8 = 2 → gX12_unwind σ' I' J' R' = some (u2 I0' 114 63 (if I0' 114 59 = 1 ∧ I0' 148 t = 1 then I0' 149 t else I0' 114 63), J')) := by
  obtain ⟨t1, t2, t3, t4, t5, t6, t7, t8, t9, t10, -⟩ := h.tp hb
  obtain ⟨q, hq, -, -, -, -, -, -, -, -, -, m3, m4, m5, -⟩ := h.tr eo
  have e : Int32.ofInt ((t + 1 : Nat) : Int) - 1 = Int32.ofInt (t : Nat) := by rw [i_subl]; congr 1; omega
  have g : ¬ (Int32.ofInt (t : Int) < 0 ∨ 400 ≤ Int32.toNatClampNeg (Int32.ofInt (t : Int))) := by rw [i_gd (by omega)]; exact id
  have gp : ¬ (Int32.ofInt (t : Int) < 0 ∨ 400 ≤ t) := by rw [i_ltl (by omega)]; omega
  obtain ⟨I0', e0⟩ : ∃ I0', u2 I' 114 42 (Int32.ofInt (t : Nat)) = I0' := ⟨_, rfl⟩
  have z42 : I0' 114 42 = Int32.ofInt (t : Nat) := by rw [← e0, u2_self]
  have z143 : I0' 143 t = Int32.ofInt ((16 + E t 8 : Nat) : Int) := by rw [← e0, u2n (by omega)]; exact m3
  have z144 : I0' 144 t = Int32.ofInt (E t 1 : Nat) := by rw [← e0, u2n (by omega)]; exact m4
  have z145 : I0' 145 t = Int32.ofInt (E t 12 : Nat) := by rw [← e0, u2n (by omega)]; exact m5
  have e8 : E t 8 ≤ 2 := (h.2.2.2.2.1 t (Nat.lt_succ_self t)).1.2.2.2.2.2.2.2.2.2.2.2
  have gb : gX12_giveBack I0' J' (Int32.ofInt (t : Nat)) = some (I0', J') := gbN (by omega) z143 (by omega)
  refine ⟨I0', e0.symm, fun s => ?_, fun s => ?_, fun s => ?_⟩
  · unfold gX12_unwind
    rw [t10, e, e0]
    try dsimp only
    rw [z42, if_pos g, t41 (by omega), if_pos gp, z144, z145, gb, ob_some]
    try dsimp only
    have zz : I0' 143 t = 16 := by rw [z143, s]; rfl
    rw [if_pos gp, if_neg (by rw [zz]; decide), if_neg (by rw [zz]; decide), if_neg (by rw [zz]; decide), if_neg (by rw [zz]; decide), if_neg (by rw [zz]; decide), if_neg (by rw [zz]; decide), if_pos zz]
  · unfold gX12_unwind
    rw [t10, e, e0]
    try dsimp only
    rw [z42, if_pos g, t41 (by omega), if_pos gp, z144, z145, gb, ob_some]
    try dsimp only
    have zz : I0' 143 t = 17 := by rw [z143, s]; rfl
    rw [if_pos gp, if_neg (by rw [zz]; decide), if_neg (by rw [zz]; decide), if_neg (by rw [zz]; decide), if_neg (by rw [zz]; decide), if_neg (by rw [zz]; decide), if_neg (by rw [zz]; decide), if_neg (by rw [zz]; decide), if_pos zz]
    by_cases w1 : I0' 114 59 = 1
    · rw [if_pos w1, if_pos w1, if_pos gp, u2n (by omega), w1, if_neg (by decide), if_neg (by decide)]
    · rw [if_neg w1, if_neg w1, u2n (by omega)]
  · unfold gX12_unwind
    rw [t10, e, e0]
    try dsimp only
    rw [z42, if_pos g, t41 (by omega), if_pos gp, z144, z145, gb, ob_some]
    try dsimp only
    have zz : I0' 143 t = 18 := by rw [z143, s]; rfl
    rw [if_pos gp, if_neg (by rw [zz]; decide), if_neg (by rw [zz]; decide), if_neg (by rw [zz]; decide), if_neg (by rw [zz]; decide), if_neg (by rw [zz]; decide), if_neg (by rw [zz]; decide), if_neg (by rw [zz]; decide), if_neg (by rw [zz]; decide), if_pos zz]
    by_cases w1 : I0' 114 59 = 1
    · rw [if_pos w1, if_pos gp]
      by_cases w2 : I0' 148 t = 1
      · rw [if_pos w2, if_pos gp, if_pos (show I0' 114 59 = 1 ∧ I0' 148 t = 1 from ⟨w1, w2⟩)]
      · rw [if_neg w2, if_neg (fun z => w2 z.2)]
    · rw [if_neg w1, if_neg (fun z => w1 z.1)]
/-- a TRY's frame goes -/
theorem lvTp {n O : Nat → Nat} {A : Nat → Nat → Int32} {vd : Nat → Int32} {G : Nat → Nat → Nat} {N : Nat → Nat → Int32} {nb sb : Nat} {σ : Shp} {I : Nat → Nat → Int32} {J : Nat → Nat → Int64} {R : Nat → Nat → Option Nat} {I' : Nat → Nat → Int32} {J' : Nat → Nat → Int64} {fc : Nat → Nat} {E : Nat → Nat → Nat} {V : Nat → Nat → Int32} {σ' : Shp} {R' : Nat → Nat → Option Nat} {t st ch : Nat} {Ia I1' : Nat → Nat → Int32} (hb : PlB n O) (h : Core n O A vd G N nb sb σ I J R I' J' fc E V (t + 1) st ch) (eo : E t 0 = 16) (aa : Ag [(25, 26)] I Ia) (b : Ag [(1000042, 1000043), (1000057, 1000065)] I' I1') (m42 : I1' 114 42 = Int32.ofInt (t : Nat)) (wy : Wy Ia I1') (pc : Pc n O Ia I1' E t) (eC : gX7_leave σ I J R (some (fc t)) = gX7_leave_b169 σ Ia J R (some (fc t))) (em : ∀ f, gX12_run_l95 σ' R' (f + 1) I' J' = gX12_run_l95 σ' R' f I1' J') : LvOk n O A vd G N nb sb σ' R' σ I J R I' J' fc E t st := by
  obtain ⟨t1, t2, t3, t4, t5, t6, t7, t8, t9, t10, t11, -⟩ := h.tp hb
  obtain ⟨q, hq, -, -, -, -, -, -, d14, d15, -⟩ := h.tr eo
  have hv := h.2.2.2.2.2.1.2.2.2.1
  have a3 : Ag [(5, 6)] Ia (u2 Ia 5 6 (Int32.ofInt (t : Nat))) := Ag.st Ag.rf rfl
  have a : Ag [(5, 6), (25, 26)] I (u2 Ia 5 6 (Int32.ofInt (t : Nat))) := (aa.mv rfl).tr (a3.mv rfl)
  have e169 := b169 (J := J) (R := R) (I := Ia) t1 t2 (by rw [aa 5 6 rfl]; exact t9) (by rw [aa.far rfl (fc t) t2 (by omega)]; exact t11) t5 (Or.inl (by omega))
  refine lvK (V := V) (ch := ch) (eC.trans e169) em (h.pop3 (a.mv rfl) (b.mv rfl) (u2_self _ _ _ _) (CntP h.2.2.2.2.2.1 (fun f h1 h2 => ?_) (a 4 13 rfl) (a 7 1 rfl) (fun k => a 8 k rfl) (fun f hf => ?_) (fun k => b 129 k rfl) m42 (fun j hj => ⟨by rw [a 19 j rfl, b 140 j rfl]; exact (hv j hj).1, by rw [a 20 j rfl, b 141 j rfl]; exact (hv j hj).2⟩) (fun z hz => ?_)) ?_) ?_ (a.mv rfl) Ag.rf Ag.rf (b.mv rfl) Ag.rf
  · rw [u2n (by omega)]; exact aa 5 f rfl
  · rcases hf with rfl | rfl | hf
    · exact b 114 1 rfl
    · exact b 114 24 rfl
    · refine b 114 f (disW_no (C := [(1000065, 1000071)]) rfl (inW_iff.mpr ⟨_, List.mem_singleton.mpr rfl, ?_, ?_⟩))
      · show 1000065 ≤ 1000000 + f; omega
      · show 1000000 + f < 1000071; omega
  · obtain rfl : z = q := by omega
    have := (h.2.2.2.2.2.1.2.1 t rfl).2.2
    exact ⟨d14, by omega⟩
  · unfold Wy at wy ⊢
    rw [a3 25 0 rfl, a3 25 1 rfl, a3 25 2 rfl, a3 25 3 rfl, a3 25 4 rfl, a3 25 5 rfl]
    exact wy
  · intro z hz w
    rw [a3 25 0 rfl] at w
    exact pc z hz w
