/-! ===== a run: bodies are left: HOLD, TAKE, OPEN, KEEP, IF, LOOP ===== -/
theorem Core.pop3 {n O : Nat → Nat} {A : Nat → Nat → Int32} {vd : Nat → Int32} {G : Nat → Nat → Nat} {N : Nat → Nat → Int32} {nb sb : Nat} {σ : Shp} {I : Nat → Nat → Int32} {J : Nat → Nat → Int64} {R : Nat → Nat → Option Nat} {I' : Nat → Nat → Int32} {J' : Nat → Nat → Int64} {fc : Nat → Nat} {E : Nat → Nat → Nat} {V : Nat → Nat → Int32} {t st ch : Nat} {I1 I1' : Nat → Nat → Int32} (h : Core n O A vd G N nb sb σ I J R I' J' fc E V (t + 1) st ch) (aI : Ag [(5, 6), (19, 21), (25, 26)] I I1) (aM : Ag [(140, 143), (1000042, 1000043), (1000057, 1000071)] I' I1') (e : I1 5 6 = Int32.ofInt (t : Nat)) (cc : Cnt I1 I1' E t st ch) (w : Wy I1 I1') : Core n O A vd G N nb sb σ I1 J R I1' J' fc E V t st ch := by
  have hn := h.hn
  exact h.pop2 ((h.2.1.kpC ⟨hn.1, by omega⟩ (aI 4 12 rfl) (fun q h1 h2 _ => aI.far rfl q h1 h2) (aI 17 6 rfl) (aI.at1 22 (by decide) (by decide) rfl)).kpM (aM.kp rfl)) h.2.2.1.1 (aI.mv rfl) Ag.rf (aM.mv rfl) e cc w
/-- frame t is a body, not of a TRY -/
theorem Core.bd {n O : Nat → Nat} {A : Nat → Nat → Int32} {vd : Nat → Int32} {G : Nat → Nat → Nat} {N : Nat → Nat → Int32} {nb sb : Nat} {σ : Shp} {I : Nat → Nat → Int32} {J : Nat → Nat → Int64} {R : Nat → Nat → Option Nat} {I' : Nat → Nat → Int32} {J' : Nat → Nat → Int64} {fc : Nat → Nat} {E : Nat → Nat → Nat} {V : Nat → Nat → Int32} {t st ch : Nat} (h : Core n O A vd G N nb sb σ I J R I' J' fc E V (t + 1) st ch) (ho : 11 ≤ E t 0 ∧ E t 0 ≠ 16 ∧ E t 0 ≠ 21) : E t 16 ≠ 0 ∧ E t 0 ≤ 20 ∧ E t 2 < 40 + n (E t 1) ∧ E t 2 < n (E t 1) ∧ I' 143 t = Int32.ofInt (E t 0 : Nat) ∧ I' 144 t = Int32.ofInt (E t 1 : Nat) ∧ I' 145 t = Int32.ofInt (E t 2 : Nat) ∧ (∀ q, t = q + 1 → E t 14 = E q 14 ∧ E t 15 = E q 15 + (if E t 0 = 12 then 1 else 0)) ∧ (V t 5 = A 0 (40 * E t 1 + E t 2) ∧ V t 6 = A 1 (40 * E t 1 + E t 2) ∧ V t 7 = A 2 (40 * E t 1 + E t 2)) ∧ (E t 0 = 11 ∨ E t 0 = 13 → Rn (V t 5) 0 2) ∧ (E t 0 = 12 → Rn (V t 5) 0 5) := by
  obtain ⟨a, b, c, -⟩ := h.2.2.2.2.1 t (Nat.lt_succ_self t)
  obtain ⟨c1, c2, c3, -⟩ := c
  rw [if_neg ho.2.1] at c1
  rw [if_neg (by omega)] at c2 c3
  rcases b with b | b | b
  · omega
  · omega
  · obtain ⟨b1, b2, b3, b4, b5, b6, b7, b8, b9, b10, ⟨b11, b12, b13, b14, b15⟩, b16, -⟩ := b
    have e := b16 ho.2.1
    rw [e] at c3 b8
    have lt := b8.1
    have a4 : E t 4 ≤ n (E t 1) := a.2.2.2.2.2.1
    refine ⟨by omega, b1.2.1, by omega, by omega, c1, c2, c3, fun q hq => ?_, ⟨b11, b12, b13⟩, b14, b15⟩
    subst hq
    exact ⟨b9, b10⟩
/-- what a leave comes to, where nothing but the frame goes -/
theorem lvK {n O : Nat → Nat} {A : Nat → Nat → Int32} {vd : Nat → Int32} {G : Nat → Nat → Nat} {N : Nat → Nat → Int32} {nb sb : Nat} {σ : Shp} {I : Nat → Nat → Int32} {J : Nat → Nat → Int64} {R : Nat → Nat → Option Nat} {I' : Nat → Nat → Int32} {J' : Nat → Nat → Int64} {fc : Nat → Nat} {E : Nat → Nat → Nat} {V : Nat → Nat → Int32} {σ' : Shp} {R' : Nat → Nat → Option Nat} {t st ch ch1 : Nat} {I1 I1' : Nat → Nat → Int32} {J1 J1' : Nat → Nat → Int64} {R1 : Nat → Nat → Option Nat} (e1 : gX7_leave σ I J R (some (fc t)) = some (I1, J1, R1)) (e2 : ∀ f, gX12_run_l95 σ' R' (f + 1) I' J' = gX12_run_l95 σ' R' f I1' J1') (h : Core n O A vd G N nb sb σ I1 J1 R1 I1' J1' fc E V t st ch1) (p : Pc n O I1 I1' E t) (aI : Ag WRc I I1) (aJ : Ag WRc J J1) (aR : Ag WRc R R1) (bI : Ag WRm I' I1') (bJ : Ag WRm J' J1') : LvOk n O A vd G N nb sb σ' R' σ I J R I' J' fc E t st := ⟨I1, J1, R1, I1', J1', E, V, t, st, ch1, e1, e2, h, p, phiP, aI, aJ, aR, bI, bJ⟩
theorem lv11 {n O : Nat → Nat} {A : Nat → Nat → Int32} {vd : Nat → Int32} {G : Nat → Nat → Nat} {N : Nat → Nat → Int32} {nb sb : Nat} {σ : Shp} {I : Nat → Nat → Int32} {J : Nat → Nat → Int64} {R : Nat → Nat → Option Nat} {I' : Nat → Nat → Int32} {J' : Nat → Nat → Int64} {fc : Nat → Nat} {E : Nat → Nat → Nat} {V : Nat → Nat → Int32} {σ' : Shp} {R' : Nat → Nat → Option Nat} {t st ch : Nat} (hb : PlB n O) (h : Core n O A vd G N nb sb σ I J R I' J' fc E V (t + 1) st ch) (hp : Pc n O I I' E (t + 1)) (md : I 25 0 ≠ 0 ∨ E t 3 = E t 4) (eo : E t 0 = 11) : LvOk n O A vd G N nb sb σ' R' σ I J R I' J' fc E t st := by
  obtain ⟨t1, t2, t3, t4, t5, t6, t7, t8, t9, t10, t11, t12, t13, t14⟩ := h.tp hb
  obtain ⟨b1, b2, -, b3, b4, b5, b6, b7, ⟨b8, b9, b10⟩, b11, b12⟩ := h.bd (by omega)
  have hn := hb.1 _ t6
  obtain ⟨k, k1, k2, ek⟩ := b11 (Or.inl eo)
  obtain ⟨k, rfl⟩ : ∃ j : Nat, k = (j : Int) := ⟨k.toNat, by omega⟩
  have ea : A 0 (40 * E t 1 + E t 2) = Int32.ofInt (k : Nat) := by rw [← b8]; exact ek
  have hv := h.2.2.2.2.2.1.2.2.2.1
  have eC : gX7_leave σ I J R (some (fc t)) = some (u2 (u2 I 20 k (I 20 k - 1)) 5 6 (Int32.ofInt (t : Nat)), J, R) := by
    rw [(lvC t1 t11 t5).2.1 k (by omega) (by rw [t12, ek]) eo]
    exact b169 t1 t2 (by rw [u2n (by omega)]; exact t9) (by rw [u2n (by omega)]; exact t11) t5 (Or.inl (by omega))
  have a : Ag [(5, 6), (20, 21)] I (u2 (u2 I 20 k (I 20 k - 1)) 5 6 (Int32.ofInt (t : Nat))) := Ag.st (Ag.st Ag.rf rfl) rfl
  have i5 : ∀ f, 8 ≤ f → f ≤ 13 → u2 (u2 I 20 k (I 20 k - 1)) 5 6 (Int32.ofInt (t : Nat)) 5 f = I 5 f := fun f h1 h2 => by simp (disch := omega) only [u2n, u2s]
  have go : ∀ I1' : Nat → Nat → Int32, Ag [(141, 142), (1000042, 1000043), (1000058, 1000059)] I' I1' → I1' 114 42 = Int32.ofInt (t : Nat) → (∀ j : Nat, j < 3 → I1' 141 j = if j = k then I' 141 k - 1 else I' 141 j) → (∀ f, gX12_run_l95 σ' R' (f + 1) I' J' = gX12_run_l95 σ' R' f I1' J') → (I 25 0 = 0 → I1' 114 57 = Int32.ofInt (E t 1 : Nat) ∧ I1' 114 58 = Int32.ofInt ((E t 4 + 1 : Nat) : Int)) → LvOk n O A vd G N nb sb σ' R' σ I J R I' J' fc E t st := fun I1' b m42 mv em pc => by
    refine lvK (V := V) (ch := ch) eC em (h.pop3 (a.mv rfl) (b.mv rfl) (u2_self _ _ _ _) (CntP h.2.2.2.2.2.1 i5 (a 4 13 rfl) (a 7 1 rfl) (fun k => a 8 k rfl) (fun f hf => ?_) (fun k => b 129 k rfl) m42 (fun j hj => ⟨by rw [a 19 j rfl, b 140 j rfl]; exact (hv j hj).1, ?_⟩) (fun q hq => ?_)) ?_) (PcP h (by omega) (fun w => pc (by rw [← a 25 0 rfl]; exact w))) (a.mv rfl) Ag.rf Ag.rf (b.mv rfl) Ag.rf
    · rcases hf with rfl | rfl | hf
      · exact b 114 1 rfl
      · exact b 114 24 rfl
      · refine b 114 f (disW_no (C := [(1000065, 1000071)]) rfl (inW_iff.mpr ⟨_, List.mem_singleton.mpr rfl, ?_, ?_⟩))
        · show 1000065 ≤ 1000000 + f; omega
        · show 1000000 + f < 1000071; omega
    · rw [mv j hj, u2n (by omega)]
      by_cases e : j = k
      · rw [e, u2_self, if_pos rfl, (hv k (by omega)).2]
      · rw [u2n (by omega), if_neg e]; exact (hv j hj).2
    · obtain ⟨z1, z2⟩ := b7 q hq
      have := (h.2.2.2.2.2.1.2.1 t rfl).2.2
      rw [if_neg (by omega)] at z2
      exact ⟨z1, by omega⟩
    · have := h.2.2.2.2.2.2
      unfold Wy at this ⊢
      rw [a 25 0 rfl, a 25 1 rfl, a 25 2 rfl, a 25 3 rfl, a 25 4 rfl, a 25 5 rfl, b 114 59 rfl, b 114 60 rfl, b 114 61 rfl, b 114 62 rfl, b 114 63 rfl, b 114 64 rfl]
      exact this
  by_cases w : I 25 0 = 0
  · have hx : E t 3 = E t 4 := md.resolve_left (fun q => q w)
    have em := mdN (σ' := σ') (R' := R') (o := 11) hb h hp w hx b1 (by rw [b4, eo]) (by omega) ((gbM h.1.2.2 (by omega) t6 (by omega) b4 b5 b6).1 k (by omega) ea eo) (u2n (by omega)) (u2n (by omega)) (u2n (by omega))
    rw [if_neg (by decide)] at em
    refine go _ (Ag.st (Ag.st (Ag.st Ag.rf rfl) rfl) rfl) (by simp (disch := omega) only [u2n, u2s]) (fun j hj => ?_) em (fun _ => ⟨?_, u2_self _ _ _ _⟩)
    · by_cases e : j = k
      · rw [e, if_pos rfl]; simp (disch := omega) only [u2n, u2s]
      · rw [if_neg e]; simp (disch := omega) only [u2n, u2s]
    · simp (disch := omega) only [u2n, u2s]
      exact (pcE hb h hp w hx).1
  · have gb := (gbM (I := u2 I' 114 42 (Int32.ofInt (t : Nat))) (J := J') (h.1.2.2.kp (Ag.kp (W := [(1000042, 1000043)]) (Ag.st Ag.rf rfl) rfl)) (show t < 400 by omega) t6 (show E t 2 < 40 by omega) (by rw [u2n (by omega)]; exact b4) (by rw [u2n (by omega)]; exact b5) (by rw [u2n (by omega)]; exact b6)).1 k (by omega) ea eo
    have em := (mdU (σ' := σ') (R' := R') (o := 11) hb h w (by rw [u2n (by omega), u2n (by omega), b4, eo]) gb).1 (Or.inl rfl)
    refine go _ (Ag.st (Ag.st Ag.rf rfl) rfl) (by simp (disch := omega) only [u2n, u2s]) (fun j hj => ?_) em (fun q => absurd q w)
    by_cases e : j = k
    · rw [e, if_pos rfl]; simp (disch := omega) only [u2n, u2s]
    · rw [if_neg e]; simp (disch := omega) only [u2n, u2s]
theorem lv13 {n O : Nat → Nat} {A : Nat → Nat → Int32} {vd : Nat → Int32} {G : Nat → Nat → Nat} {N : Nat → Nat → Int32} {nb sb : Nat} {σ : Shp} {I : Nat → Nat → Int32} {J : Nat → Nat → Int64} {R : Nat → Nat → Option Nat} {I' : Nat → Nat → Int32} {J' : Nat → Nat → Int64} {fc : Nat → Nat} {E : Nat → Nat → Nat} {V : Nat → Nat → Int32} {σ' : Shp} {R' : Nat → Nat → Option Nat} {t st ch : Nat} (hb : PlB n O) (h : Core n O A vd G N nb sb σ I J R I' J' fc E V (t + 1) st ch) (hp : Pc n O I I' E (t + 1)) (md : I 25 0 ≠ 0 ∨ E t 3 = E t 4) (eo : E t 0 = 13) : LvOk n O A vd G N nb sb σ' R' σ I J R I' J' fc E t st := by
  obtain ⟨t1, t2, t3, t4, t5, t6, t7, t8, t9, t10, t11, t12, t13, t14⟩ := h.tp hb
  obtain ⟨b1, b2, -, b3, b4, b5, b6, b7, ⟨b8, b9, b10⟩, b11, b12⟩ := h.bd (by omega)
  have hn := hb.1 _ t6
  obtain ⟨k, k1, k2, ek⟩ := b11 (Or.inr eo)
  obtain ⟨k, rfl⟩ : ∃ j : Nat, k = (j : Int) := ⟨k.toNat, by omega⟩
  have ea : A 0 (40 * E t 1 + E t 2) = Int32.ofInt (k : Nat) := by rw [← b8]; exact ek
  have hv := h.2.2.2.2.2.1.2.2.2.1
  have eC : gX7_leave σ I J R (some (fc t)) = some (u2 (u2 I 19 k (V t 7)) 5 6 (Int32.ofInt (t : Nat)), J, R) := by
    rw [(lvC t1 t11 t5).2.2.2.1 k (by omega) (by rw [t12, ek]) eo, t14]
    exact b169 t1 t2 (by rw [u2n (by omega)]; exact t9) (by rw [u2n (by omega)]; exact t11) t5 (Or.inl (by omega))
  have a : Ag [(5, 6), (19, 20)] I (u2 (u2 I 19 k (V t 7)) 5 6 (Int32.ofInt (t : Nat))) := Ag.st (Ag.st Ag.rf rfl) rfl
  have i5 : ∀ f, 8 ≤ f → f ≤ 13 → u2 (u2 I 19 k (V t 7)) 5 6 (Int32.ofInt (t : Nat)) 5 f = I 5 f := fun f h1 h2 => by simp (disch := omega) only [u2n, u2s]
  have go : ∀ I1' : Nat → Nat → Int32, Ag [(140, 141), (1000042, 1000043), (1000058, 1000059)] I' I1' → I1' 114 42 = Int32.ofInt (t : Nat) → (∀ j : Nat, j < 3 → I1' 140 j = if j = k then V t 7 else I' 140 j) → (∀ f, gX12_run_l95 σ' R' (f + 1) I' J' = gX12_run_l95 σ' R' f I1' J') → (I 25 0 = 0 → I1' 114 57 = Int32.ofInt (E t 1 : Nat) ∧ I1' 114 58 = Int32.ofInt ((E t 4 + 1 : Nat) : Int)) → LvOk n O A vd G N nb sb σ' R' σ I J R I' J' fc E t st := fun I1' b m42 mv em pc => by
    refine lvK (V := V) (ch := ch) eC em (h.pop3 (a.mv rfl) (b.mv rfl) (u2_self _ _ _ _) (CntP h.2.2.2.2.2.1 i5 (a 4 13 rfl) (a 7 1 rfl) (fun k => a 8 k rfl) (fun f hf => ?_) (fun k => b 129 k rfl) m42 (fun j hj => ⟨?_, by rw [a 20 j rfl, b 141 j rfl]; exact (hv j hj).2⟩) (fun q hq => ?_)) ?_) (PcP h (by omega) (fun w => pc (by rw [← a 25 0 rfl]; exact w))) (a.mv rfl) Ag.rf Ag.rf (b.mv rfl) Ag.rf
    · rcases hf with rfl | rfl | hf
      · exact b 114 1 rfl
      · exact b 114 24 rfl
      · refine b 114 f (disW_no (C := [(1000065, 1000071)]) rfl (inW_iff.mpr ⟨_, List.mem_singleton.mpr rfl, ?_, ?_⟩))
        · show 1000065 ≤ 1000000 + f; omega
        · show 1000000 + f < 1000071; omega
    · rw [mv j hj, u2n (by omega)]
      by_cases e : j = k
      · rw [e, u2_self, if_pos rfl]
      · rw [u2n (by omega), if_neg e]; exact (hv j hj).1
    · obtain ⟨z1, z2⟩ := b7 q hq
      have := (h.2.2.2.2.2.1.2.1 t rfl).2.2
      rw [if_neg (by omega)] at z2
      exact ⟨z1, by omega⟩
    · have := h.2.2.2.2.2.2
      unfold Wy at this ⊢
      rw [a 25 0 rfl, a 25 1 rfl, a 25 2 rfl, a 25 3 rfl, a 25 4 rfl, a 25 5 rfl, b 114 59 rfl, b 114 60 rfl, b 114 61 rfl, b 114 62 rfl, b 114 63 rfl, b 114 64 rfl]
      exact this
  by_cases w : I 25 0 = 0
  · have hx : E t 3 = E t 4 := md.resolve_left (fun q => q w)
    have em := mdN (σ' := σ') (R' := R') (o := 13) hb h hp w hx b1 (by rw [b4, eo]) (by omega) ((gbM h.1.2.2 (by omega) t6 (by omega) b4 b5 b6).2.2 k (by omega) ea eo) (u2n (by omega)) (u2n (by omega)) (u2n (by omega))
    rw [if_neg (by decide)] at em
    refine go _ (Ag.st (Ag.st (Ag.st Ag.rf rfl) rfl) rfl) (by simp (disch := omega) only [u2n, u2s]) (fun j hj => ?_) em (fun _ => ⟨?_, u2_self _ _ _ _⟩)
    · by_cases e : j = k
      · rw [e, if_pos rfl]; simp (disch := omega) only [u2n, u2s]; exact b10.symm
      · rw [if_neg e]; simp (disch := omega) only [u2n, u2s]
    · simp (disch := omega) only [u2n, u2s]
      exact (pcE hb h hp w hx).1
  · have gb := (gbM (I := u2 I' 114 42 (Int32.ofInt (t : Nat))) (J := J') (h.1.2.2.kp (Ag.kp (W := [(1000042, 1000043)]) (Ag.st Ag.rf rfl) rfl)) (show t < 400 by omega) t6 (show E t 2 < 40 by omega) (by rw [u2n (by omega)]; exact b4) (by rw [u2n (by omega)]; exact b5) (by rw [u2n (by omega)]; exact b6)).2.2 k (by omega) ea eo
    have em := (mdU (σ' := σ') (R' := R') (o := 13) hb h w (by rw [u2n (by omega), u2n (by omega), b4, eo]) gb).1 (Or.inr (Or.inr (Or.inl rfl)))
    refine go _ (Ag.st (Ag.st Ag.rf rfl) rfl) (by simp (disch := omega) only [u2n, u2s]) (fun j hj => ?_) em (fun q => absurd q w)
    by_cases e : j = k
    · rw [e, if_pos rfl]; simp (disch := omega) only [u2n, u2s]; exact b10.symm
    · rw [if_neg e]; simp (disch := omega) only [u2n, u2s]
