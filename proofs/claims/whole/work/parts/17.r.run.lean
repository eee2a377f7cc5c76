/-! ===== a run: bodies are left: TAKE, IF, LOOP, and those that undo ===== -/
theorem lv12 {n O : Nat → Nat} {A : Nat → Nat → Int32} {vd : Nat → Int32} {G : Nat → Nat → Nat} {N : Nat → Nat → Int32} {nb sb : Nat} {σ : Shp} {I : Nat → Nat → Int32} {J : Nat → Nat → Int64} {R : Nat → Nat → Option Nat} {I' : Nat → Nat → Int32} {J' : Nat → Nat → Int64} {fc : Nat → Nat} {E : Nat → Nat → Nat} {V : Nat → Nat → Int32} {σ' : Shp} {R' : Nat → Nat → Option Nat} {t st ch : Nat} (hb : PlB n O) (h : Core n O A vd G N nb sb σ I J R I' J' fc E V (t + 1) st ch) (hp : Pc n O I I' E (t + 1)) (md : I 25 0 ≠ 0 ∨ E t 3 = E t 4) (eo : E t 0 = 12) : LvOk n O A vd G N nb sb σ' R' σ I J R I' J' fc E t st := by
  obtain ⟨t1, t2, t3, t4, t5, t6, t7, t8, t9, t10, t11, t12, t13, t14⟩ := h.tp hb
  obtain ⟨b1, b2, -, b3, b4, b5, b6, b7, ⟨b8, b9, b10⟩, b11, b12⟩ := h.bd (by omega)
  have hn := hb.1 _ t6
  have hnn := h.hn
  obtain ⟨k, k1, k2, ek⟩ := b12 eo
  obtain ⟨k, rfl⟩ : ∃ j : Nat, k = (j : Int) := ⟨k.toNat, by omega⟩
  have ea : A 0 (40 * E t 1 + E t 2) = Int32.ofInt (k : Nat) := by rw [← b8]; exact ek
  have hv := h.2.2.2.2.2.1.2.2.2.1
  have hst := h.2.1.choose_spec.2.2.2.1 k (by omega)
  have c15 := (h.2.2.2.2.2.1.2.1 t rfl).2.2
  have c300 := h.2.2.2.2.2.1.1.2.2
  have go : ∀ (I0' I1' : Nat → Nat → Int32), Kp [(115, 119), (119, 120), (120, 128), (133, 134), (154, 155), (1000000, 1000001), (1000007, 1000008), (1000009, 1000010), (1000054, 1000055)] I' I0' → ∀ (I4 : Nat → Nat → Int32) (J4 : Nat → Nat → Int64), gX12_changeStock I0' J' (Int32.ofInt (k : Nat)) (J 18 k + Int32.toInt64 (V t 6)) = some (I4, J4) → Ag [(1000042, 1000043)] I' I0' → Ag [(1000042, 1000043), (1000058, 1000059)] I4 I1' → I1' 114 42 = Int32.ofInt (t : Nat) → (∀ f, gX12_run_l95 σ' R' (f + 1) I' J' = gX12_run_l95 σ' R' f I1' J4) → (I 25 0 = 0 → I1' 114 57 = Int32.ofInt (E t 1 : Nat) ∧ I1' 114 58 = Int32.ofInt ((E t 4 + 1 : Nat) : Int)) → LvOk n O A vd G N nb sb σ' R' σ I J R I' J' fc E t st := fun I0' I1' kp0 I4 J4 e4 g0 g1 m42 em pc => by
    obtain ⟨Ic, Jc, Rc, Im, Jm, r1, r2, r3, r4, r5, r6, r7, r8, r9⟩ := (h.2.1.kpM kp0).stock (J 18 k + Int32.toInt64 (V t 6)) h.2.2.1.1 ⟨hnn.1, by omega⟩ (by omega) (k := k) (by omega)
    rw [e4] at r2
    cases r2
    have a2 : Ag [(5, 6)] Ic (u2 Ic 5 6 (Int32.ofInt (t : Nat))) := Ag.st Ag.rf rfl
    have a : Ag [(5, 6), (17, 18), (22, 23)] I (u2 Ic 5 6 (Int32.ofInt (t : Nat))) := (r5.mv rfl).tr (a2.mv rfl)
    have b : Ag [(154, 155), (1000042, 1000043), (1000054, 1000055), (1000058, 1000059)] I' I1' := ((g0.mv rfl).tr (r8.mv rfl)).tr (g1.mv rfl)
    have i5 : ∀ f, 8 ≤ f → f ≤ 13 → u2 Ic 5 6 (Int32.ofInt (t : Nat)) 5 f = I 5 f := fun f h1 h2 => by rw [u2n (by omega)]; exact r5 5 f rfl
    have eC : gX7_leave σ I J R (some (fc t)) = some (u2 Ic 5 6 (Int32.ofInt (t : Nat)), Jc, Rc) := by
      rw [(lvC t1 t11 t5).2.2.1 k (by omega) (by rw [t12, ek]) eo, t13, r1, ob_some]
      exact b169 t1 t2 (by rw [r5 5 6 rfl]; exact t9) (by rw [r5.far rfl (fc t) t2 (by omega)]; exact t11) t5 (Or.inl (by omega))
    refine lvK (V := V) (ch := ch) eC em (h.pop2 ((r3.kpC ⟨hnn.1, by omega⟩ (a2 4 12 rfl) (fun q h1 h2 _ => a2.far rfl q h1 h2) (a2 17 6 rfl) (a2.at1 22 (by decide) (by decide) rfl)).kpM (g1.kp rfl)) r4 (a.mv rfl) r7 (b.mv rfl) (u2_self _ _ _ _) (CntP h.2.2.2.2.2.1 i5 (a 4 13 rfl) (a 7 1 rfl) (fun k => a 8 k rfl) (fun f hf => ?_) (fun k => b 129 k rfl) m42 (fun j hj => ⟨by rw [a 19 j rfl, b 140 j rfl]; exact (hv j hj).1, by rw [a 20 j rfl, b 141 j rfl]; exact (hv j hj).2⟩) (fun q hq => ?_)) ?_) (PcP h (by omega) (fun w => pc (by rw [← a 25 0 rfl]; exact w))) (a.mv rfl) (r6.mv rfl) (r7.mv rfl) (b.mv rfl) (r9.mv rfl)
    · rcases hf with rfl | rfl | hf
      · exact b 114 1 rfl
      · exact b 114 24 rfl
      · refine b 114 f (disW_no (C := [(1000065, 1000071)]) rfl (inW_iff.mpr ⟨_, List.mem_singleton.mpr rfl, ?_, ?_⟩))
        · show 1000065 ≤ 1000000 + f; omega
        · show 1000000 + f < 1000071; omega
    · obtain ⟨z1, z2⟩ := b7 q hq
      rw [if_pos eo] at z2
      exact ⟨z1, by omega⟩
    · have := h.2.2.2.2.2.2
      unfold Wy at this ⊢
      rw [a 25 0 rfl, a 25 1 rfl, a 25 2 rfl, a 25 3 rfl, a 25 4 rfl, a 25 5 rfl, b 114 59 rfl, b 114 60 rfl, b 114 61 rfl, b 114 62 rfl, b 114 63 rfl, b 114 64 rfl]
      exact this
  have pre : ∀ I0' : Nat → Nat → Int32, Ag [(1000042, 1000043)] I' I0' → ∃ I4 J4, gX12_changeStock I0' J' (Int32.ofInt (k : Nat)) (J 18 k + Int32.toInt64 (V t 6)) = some (I4, J4) ∧ gX12_giveBack I0' J' (Int32.ofInt (t : Nat)) = some (I4, J4) ∧ Ag [(154, 155), (1000054, 1000055)] I0' I4 := fun I0' g0 => by
    obtain ⟨Ic, Jc, Rc, Im, Jm, r1, r2, r3, r4, r5, r6, r7, r8, r9⟩ := (h.2.1.kpM (g0.kp rfl)).stock (J 18 k + Int32.toInt64 (V t 6)) h.2.2.1.1 ⟨hnn.1, by omega⟩ (by omega) (k := k) (by omega)
    refine ⟨Im, Jm, r2, ?_, r8⟩
    rw [(gbM (h.1.2.2.kp (g0.kp rfl)) (show t < 400 by omega) t6 (show E t 2 < 40 by omega) (by rw [g0 143 t rfl]; exact b4) (by rw [g0 144 t rfl]; exact b5) (by rw [g0 145 t rfl]; exact b6)).2.1 k (by omega) ea eo, ← b9, ← hst]
    exact r2
  by_cases w : I 25 0 = 0
  · have hx : E t 3 = E t 4 := md.resolve_left (fun q => q w)
    obtain ⟨I4, J4, p1, p2, p3⟩ := pre I' Ag.rf
    have em := mdN (σ' := σ') (R' := R') (o := 12) hb h hp w hx b1 (by rw [b4, eo]) (by omega) p2 (p3 114 42 rfl) (p3 114 58 rfl) (p3 145 t rfl)
    rw [if_neg (by decide)] at em
    refine go I' _ Kp.rf I4 J4 p1 Ag.rf (Ag.st (Ag.st Ag.rf rfl) rfl) (by simp (disch := omega) only [u2n, u2s]) em (fun _ => ⟨?_, u2_self _ _ _ _⟩)
    simp (disch := omega) only [u2n, u2s]
    rw [p3 114 57 rfl]
    exact (pcE hb h hp w hx).1
  · have g0 : Ag [(1000042, 1000043)] I' (u2 I' 114 42 (Int32.ofInt (t : Nat))) := Ag.st Ag.rf rfl
    obtain ⟨I4, J4, p1, p2, p3⟩ := pre _ g0
    have em := (mdU (σ' := σ') (R' := R') (o := 12) hb h w (by rw [p3 143 t rfl, u2n (by omega), b4, eo]) p2).1 (Or.inr (Or.inl rfl))
    exact go _ I4 (g0.kp rfl) I4 J4 p1 g0 Ag.rf (by rw [p3 114 42 rfl, u2_self]) em (fun q => absurd q w)
theorem udN {σ : Shp} {I : Nat → Nat → Int32} {J : Nat → Nat → Int64} {R : Nat → Nat → Option Nat} {c : Option Nat} (w : I 25 0 ≠ 1) : gX7_undoFaulted σ I J R c = some (I, J) := by
  unfold gX7_undoFaulted
  rw [if_pos g00, c00, if_neg w]
theorem udF {σ : Shp} {I : Nat → Nat → Int32} {J : Nat → Nat → Int64} {R : Nat → Nat → Option Nat} {c : Nat} (hk : kdx σ c = 4) (w : I 25 0 = 1) : gX7_undoFaulted σ I J R (some c) = gX8_undoTo σ I J R (I c 10) := by
  unfold gX7_undoFaulted
  rw [if_pos g00, c00, if_pos w, ob_some, if_pos hk]
  generalize gX8_undoTo σ I J R (I c 10) = z
  cases z with
  | none => rfl
  | some r => rfl
/-- a frame goes, and nothing else -/
theorem lvZ {n O : Nat → Nat} {A : Nat → Nat → Int32} {vd : Nat → Int32} {G : Nat → Nat → Nat} {N : Nat → Nat → Int32} {nb sb : Nat} {σ : Shp} {I : Nat → Nat → Int32} {J : Nat → Nat → Int64} {R : Nat → Nat → Option Nat} {I' : Nat → Nat → Int32} {J' : Nat → Nat → Int64} {fc : Nat → Nat} {E : Nat → Nat → Nat} {V : Nat → Nat → Int32} {σ' : Shp} {R' : Nat → Nat → Option Nat} {t st ch : Nat} (hb : PlB n O) (h : Core n O A vd G N nb sb σ I J R I' J' fc E V (t + 1) st ch) (hp : Pc n O I I' E (t + 1)) (md : I 25 0 ≠ 0 ∨ E t 3 = E t 4) (eo : ((E t 0 = 14 ∨ E t 0 = 15) ∧ I 25 0 ≠ 1) ∨ E t 0 = 19 ∨ (E t 0 = 20 ∧ I 25 0 ≠ 0)) : LvOk n O A vd G N nb sb σ' R' σ I J R I' J' fc E t st := by
  obtain ⟨t1, t2, t3, t4, t5, t6, t7, t8, t9, t10, t11, t12, t13, t14⟩ := h.tp hb
  obtain ⟨b1, b2, -, b3, b4, b5, b6, b7, -⟩ := h.bd (by omega)
  have hv := h.2.2.2.2.2.1.2.2.2.1
  have q20 : E t 0 ≠ 20 ∨ I 25 0 ≠ 0 := by
    rcases eo with ⟨z, -⟩ | z | ⟨-, z⟩
    · exact Or.inl (by omega)
    · exact Or.inl (by omega)
    · exact Or.inr z
  have e169 := b169 (J := J) (R := R) t1 t2 t9 t11 t5 q20
  have eC : gX7_leave σ I J R (some (fc t)) = some (u2 I 5 6 (Int32.ofInt (t : Nat)), J, R) := by
    rcases eo with ⟨eo | eo, w⟩ | eo | ⟨eo, w⟩
    · rw [(lvC t1 t11 t5).2.2.2.2.1 (Or.inl eo), udN w, ob_some]; exact e169
    · rw [(lvC t1 t11 t5).2.2.2.2.2.1 eo]
      unfold gX7_goesAgain
      rw [udN w, ob_some]
      try dsimp only
      rw [if_pos g00, c00, if_neg w, ob_some]
      try dsimp only
      rw [if_pos rfl]
      exact e169
    · rw [(lvC t1 t11 t5).2.2.2.2.2.2.2 (Or.inl eo)]; exact e169
    · rw [(lvC t1 t11 t5).2.2.2.2.2.2.2 (Or.inr eo)]; exact e169
  have a : Ag [(5, 6)] I (u2 I 5 6 (Int32.ofInt (t : Nat))) := Ag.st Ag.rf rfl
  have i5 : ∀ f, 8 ≤ f → f ≤ 13 → u2 I 5 6 (Int32.ofInt (t : Nat)) 5 f = I 5 f := fun f h1 h2 => u2n (by omega)
  have go : ∀ I1' : Nat → Nat → Int32, Ag [(1000042, 1000043), (1000058, 1000059)] I' I1' → I1' 114 42 = Int32.ofInt (t : Nat) → (∀ f, gX12_run_l95 σ' R' (f + 1) I' J' = gX12_run_l95 σ' R' f I1' J') → (I 25 0 = 0 → I1' 114 57 = Int32.ofInt (E t 1 : Nat) ∧ I1' 114 58 = Int32.ofInt ((E t 4 + 1 : Nat) : Int)) → LvOk n O A vd G N nb sb σ' R' σ I J R I' J' fc E t st := fun I1' b m42 em pc => by
    refine lvK (V := V) (ch := ch) eC em (h.pop3 (a.mv rfl) (b.mv rfl) (u2_self _ _ _ _) (CntP h.2.2.2.2.2.1 i5 (a 4 13 rfl) (a 7 1 rfl) (fun k => a 8 k rfl) (fun f hf => ?_) (fun k => b 129 k rfl) m42 (fun j hj => ⟨by rw [a 19 j rfl, b 140 j rfl]; exact (hv j hj).1, by rw [a 20 j rfl, b 141 j rfl]; exact (hv j hj).2⟩) (fun q hq => ?_)) ?_) (PcP h (by omega) (fun w => pc (by rw [← a 25 0 rfl]; exact w))) (a.mv rfl) Ag.rf Ag.rf (b.mv rfl) Ag.rf
    · rcases hf with rfl | rfl | hf
      · exact b 114 1 rfl
      · exact b 114 24 rfl
      · refine b 114 f (disW_no (C := [(1000065, 1000071)]) rfl (inW_iff.mpr ⟨_, List.mem_singleton.mpr rfl, ?_, ?_⟩))
        · show 1000065 ≤ 1000000 + f; omega
        · show 1000000 + f < 1000071; omega
    · obtain ⟨z1, z2⟩ := b7 q hq
      have := (h.2.2.2.2.2.1.2.1 t rfl).2.2
      rw [if_neg (by omega)] at z2
      exact ⟨z1, by omega⟩
    · have := h.2.2.2.2.2.2
      unfold Wy at this ⊢
      rw [a 25 0 rfl, a 25 1 rfl, a 25 2 rfl, a 25 3 rfl, a 25 4 rfl, a 25 5 rfl, b 114 59 rfl, b 114 60 rfl, b 114 61 rfl, b 114 62 rfl, b 114 63 rfl, b 114 64 rfl]
      exact this
  by_cases w : I 25 0 = 0
  · have hx : E t 3 = E t 4 := md.resolve_left (fun q => q w)
    have n20 : E t 0 ≠ 20 := fun q => by
      rcases eo with ⟨z, -⟩ | z | ⟨-, z⟩
      · omega
      · omega
      · exact z w
    have em := mdN (σ' := σ') (R' := R') (o := E t 0) hb h hp w hx b1 b4 (by omega) (gbN (by omega) b4 (by omega)) rfl rfl rfl
    rw [if_neg n20] at em
    refine go _ (Ag.st (Ag.st Ag.rf rfl) rfl) (by simp (disch := omega) only [u2n, u2s]) em (fun _ => ⟨?_, u2_self _ _ _ _⟩)
    simp (disch := omega) only [u2n, u2s]
    exact (pcE hb h hp w hx).1
  · have g0 : Ag [(1000042, 1000043)] I' (u2 I' 114 42 (Int32.ofInt (t : Nat))) := Ag.st Ag.rf rfl
    have M := mdU (σ' := σ') (R' := R') (o := E t 0) hb h w (by rw [u2n (by omega)]; exact b4) (gbN (J := J') (show t < 400 by omega) (by rw [u2n (by omega)]; exact b4) (by omega))
    refine go _ (g0.mv rfl) (u2_self _ _ _ _) ?_ (fun q => absurd q w)
    rcases eo with ⟨z, w1⟩ | z | ⟨z, -⟩
    · refine M.2.2.1 z _ _ ?_
      unfold gX12_unwind_b133
      rw [if_neg]
      rw [g0 114 59 rfl, h.2.2.2.2.2.2.1]
      exact w1
    · exact M.1 (by omega)
    · exact M.1 (by omega)
