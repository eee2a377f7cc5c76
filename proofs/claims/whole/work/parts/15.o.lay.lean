/-! ===== tables: class and model lay them so ===== -/
def TZ (T : Nat → Nat → Nat) : Prop := ∀ i, i < 3 → T 1 i = 0 → T 2 i = 0
theorem nar1 : vp_nar .boolean (1 : Int32) = 1 := by decide
theorem i3 {t : Nat} (h : t < 3) : ¬ (Int32.ofInt (t : Int) < 0 ∨ 3 ≤ Int32.toNatClampNeg (Int32.ofInt (t : Int))) := by rw [i_gd (by omega)]; exact id
theorem i3p {t : Nat} (h : t < 3) : ¬ (Int32.ofInt (t : Int) < 0 ∨ 3 ≤ t) := by rw [i_ltl (by omega)]; omega
theorem one_i : (1 : Int32) = Int32.ofInt ((1 : Nat) : Int) := rfl
theorem QtC.s0 {r : Nat → Nat} {T : Nat → Nat → Nat} {I : Nat → Nat → Int32} {t : Nat} (h : QtC r T I) : QtC r (u2 T 0 t 1) (u2 I 39 t 1) := by
  refine ⟨fun i hi => ?_, by rw [u2n (by omega), u2n (by omega)]; exact h.2⟩
  obtain ⟨a, b, c, d, e⟩ := h.1 i hi
  refine ⟨by rw [u2n (by omega)]; exact a, ?_, by rw [u2n (by omega), u2n (by omega)]; exact c, by rw [u2n (by omega), u2n (by omega)]; exact d, by rw [u2n (by omega), u2n (by omega)]; exact e⟩
  by_cases q : i = t
  · subst q; rw [u2_self, u2_self]; rfl
  · rw [u2n (by omega), u2n (by omega)]; exact b
theorem QtC.s2 {r : Nat → Nat} {T : Nat → Nat → Nat} {I : Nat → Nat → Int32} {t v : Nat} (h : QtC r T I) : QtC r (u2 T 2 t v) (u2 I 38 t (Int32.ofInt (v : Int))) := by
  refine ⟨fun i hi => ?_, by rw [u2n (by omega), u2n (by omega)]; exact h.2⟩
  obtain ⟨a, b, c, d, e⟩ := h.1 i hi
  refine ⟨by rw [u2n (by omega)]; exact a, by rw [u2n (by omega), u2n (by omega)]; exact b, by rw [u2n (by omega), u2n (by omega)]; exact c, ?_, by rw [u2n (by omega), u2n (by omega)]; exact e⟩
  by_cases q : i = t
  · subst q; rw [u2_self, u2_self]
  · rw [u2n (by omega), u2n (by omega)]; exact d
theorem QtC.fn {r : Nat → Nat} {T : Nat → Nat → Nat} {I : Nat → Nat → Int32} {t : Nat} (h : QtC r T I) : QtC r (finS t T) (u2 (u2 (u2 I 40 t 1) 41 (T 4 0) (Int32.ofInt (t : Int))) 27 8 (Int32.ofInt ((T 4 0 + 1 : Nat) : Int))) := by
  unfold finS
  refine ⟨fun i hi => ?_, by rw [u2_self, u2_self]⟩
  obtain ⟨a, b, c, d, e⟩ := h.1 i hi
  refine ⟨by rw [u2n (by omega), u2n (by omega), u2n (by omega)]; exact a, by rw [u2n (by omega), u2n (by omega), u2n (by omega), u2n (by omega), u2n (by omega), u2n (by omega)]; exact b, ?_, by rw [u2n (by omega), u2n (by omega), u2n (by omega), u2n (by omega), u2n (by omega), u2n (by omega)]; exact d, ?_⟩
  · rw [u2n (show ¬ (40 = 27 ∧ i = 8) by omega), u2n (show ¬ (40 = 41 ∧ i = T 4 0) by omega), u2n (show ¬ (1 = 4 ∧ i = 0) by omega), u2n (show ¬ (1 = 3 ∧ i = T 4 0) by omega)]
    by_cases q : i = t
    · subst q; rw [u2_self, u2_self]; rfl
    · rw [u2n (by omega), u2n (by omega)]; exact c
  · rw [u2n (show ¬ (41 = 27 ∧ i = 8) by omega), u2n (show ¬ (3 = 4 ∧ i = 0) by omega)]
    by_cases q : i = T 4 0
    · rw [u2s ⟨rfl, q⟩, u2s ⟨rfl, q⟩]
    · rw [u2n (by omega), u2n (by omega), u2n (by omega), u2n (by omega)]; exact e
theorem cb74 {r : Nat → Nat} {T : Nat → Nat → Nat} {I : Nat → Nat → Int32} {σ : Shp} {R : Nat → Nat → Option Nat} {t : Nat} {fr : Shp → (Nat → Nat → Int32) → (Nat → Nat → Option Nat) → Int32 → Int32 → Option (Nat → Nat → Int32)} (h : QtC r T I) (ht : t < 3) (hm : T 4 0 < 3) : gX9_layDown_b74 fr σ R I (Int32.ofInt t) = some (u2 (u2 (u2 I 40 t 1) 41 (T 4 0) (Int32.ofInt (t : Int))) 27 8 (Int32.ofInt ((T 4 0 + 1 : Nat) : Int))) := by
  unfold gX9_layDown_b74
  dsimp only
  rw [if_pos (i3 ht), nar1, t41 (by omega), u2n (show ¬ (27 = 40 ∧ 8 = t) by omega), h.2, if_neg (by rw [i_ler (by omega)]; omega), if_pos (i3 hm), t41 (by omega), u2n (show ¬ (27 = 41 ∧ 8 = T 4 0) by omega), u2n (show ¬ (27 = 40 ∧ 8 = t) by omega), h.2, iadd1]
theorem cb47 {r : Nat → Nat} {T : Nat → Nat → Nat} {I : Nat → Nat → Int32} {σ : Shp} {R : Nat → Nat → Option Nat} {t o : Nat} {fr : Shp → (Nat → Nat → Int32) → (Nat → Nat → Option Nat) → Int32 → Int32 → Option (Nat → Nat → Int32)} (h : QtC r T I) (hI : TI T) (ht : t < 3) (ho : o < 3) (hm : T 4 0 < 3) : ∃ I', gX9_layDown_b47 fr σ R I (Int32.ofInt t) (Int32.ofInt o) = some I' ∧ QtC r (finS t (u2 T 2 t (1 + (if T 1 o = 0 then 0 else T 2 o)))) I' ∧ Ag [(27, 28), (38, 42)] I I' := by
  have f1 := (hI.1 o ho).2.1
  have f2 := (hI.1 o ho).1
  have k := fun v => QtC.s2 (t := t) (v := v) h
  have m4 : ∀ v, u2 T 2 t v 4 0 < 3 := fun v => by rw [u2n (by omega)]; exact hm
  unfold gX9_layDown_b47
  dsimp only
  rw [if_pos (i3 ho), t41 (t := o) (by omega), (h.1 o ho).2.2.1]
  by_cases c : T 1 o = 0
  · rw [if_pos c, if_pos (by rw [c]; rfl), if_pos (i3 ht), t41 (by omega), show (1 : Int32) + 0 = Int32.ofInt ((1 + 0 : Nat) : Int) from rfl]
    exact ⟨_, cb74 (k _) ht (m4 _), (k _).fn, Ag.st (Ag.st (Ag.st (Ag.st Ag.rf rfl) rfl) rfl) rfl⟩
  · rw [if_neg c, if_neg (by rw [i_eql (by omega)]; omega), if_pos (i3p ho), if_pos (i3 ht), t41 (by omega), (h.1 o ho).2.2.2.1, one_i, iadd]
    exact ⟨_, cb74 (k _) ht (m4 _), (k _).fn, Ag.st (Ag.st (Ag.st (Ag.st Ag.rf rfl) rfl) rfl) rfl⟩
theorem layC {r : Nat → Nat} {σ : Shp} {R : Nat → Nat → Option Nat} (hr : ∀ t, t < 3 → r t ≤ 3) : ∀ (f t lv n : Nat) (T : Nat → Nat → Nat) (I : Nat → Nat → Int32), QtC r T I → TI T → t < 3 → T 0 t = 0 → c0 T ≤ f → lv + c0 T ≤ 3 → f ≤ n → ∃ I', gX9_layDown n σ I R (Int32.ofInt t) (Int32.ofInt lv) = some I' ∧ QtC r (layS r f t T) I' ∧ Ag [(27, 28), (38, 42)] I I' := by
  intro f
  induction f with
  | zero =>
    intro t lv n T I h hI ht hb hc
    have := c0_dec ht hb
    omega
  | succ f ih =>
    intro t lv n T I h hI ht hb hc hl hn
    obtain ⟨n, rfl⟩ : ∃ m, n = m + 1 := ⟨n - 1, by omega⟩
    have dc := c0_dec ht hb
    have b1 : u2 T 0 t 1 0 t = 1 := u2_self _ _ _ _
    have f0 : u2 T 0 t 1 1 t = 0 := by rw [u2n (by omega)]; have := (hI.1 t ht).2.1; omega
    have hI1 := hI.beg (t := t)
    have Q1 := h.s0 (t := t)
    have A1 : Ag [(27, 28), (38, 42)] I (u2 I 39 t 1) := Ag.st Ag.rf rfl
    have ron := hr t ht
    have v4 : u2 I 39 t 1 37 t - 1 = Int32.ofInt ((r t : Int) - 1) := by rw [(Q1.1 t ht).1, i_subl]
    rw [gX9_layDown]
    dsimp only
    rw [if_pos (i3 ht), t41 (by omega), nar1, if_pos (i3p ht), v4]
    unfold layS
    by_cases c : r t = 0
    · rw [if_pos c, if_pos (by rw [i_ltl (by omega)]; omega)]
      obtain ⟨-, -, x3⟩ := hI1.fin ht b1 f0 0 (by omega)
      exact ⟨_, cb74 Q1 ht x3, Q1.fn, Ag.st (Ag.st (Ag.st A1 rfl) rfl) rfl⟩
    · have on : (r t : Int) - 1 = ((r t - 1 : Nat) : Int) := by omega
      rw [if_neg c, if_neg (by rw [i_ltl (by omega)]; omega), if_neg (by rw [i_ler (by omega)]; omega), on, if_pos (i3 (by omega)), t41 (by omega), (Q1.1 (r t - 1) (by omega)).2.1]
      by_cases d : u2 T 0 t 1 0 (r t - 1) = 0
      · rw [if_pos d, if_pos (by rw [d]; rfl)]
        have d2 := c0_dec (T := u2 T 0 t 1) (t := r t - 1) (by omega) d
        obtain ⟨x1, x2, -⟩ := lay_I hr f (r t - 1) (u2 T 0 t 1) hI1 (by omega) d (by omega)
        obtain ⟨I2, y1, y2, y3⟩ := ih (r t - 1) (lv + 1) n (u2 T 0 t 1) (u2 I 39 t 1) Q1 hI1 (by omega) d (by omega) (by omega) (by omega)
        obtain ⟨z1, z2, z3⟩ := (x2 t ht).1 b1
        rw [f0] at z2
        obtain ⟨-, -, x3⟩ := x1.fin ht z1 z2 0 (by omega)
        obtain ⟨I3, w1, w2, w3⟩ := cb47 (σ := σ) (R := R) (fr := gX9_layDown n) y2 x1 ht (show r t - 1 < 3 by omega) x3
        rw [if_neg (by rw [i_ler (by omega)]; omega), iadd1, y1, ob_some]
        exact ⟨I3, w1, w2, (A1.tr y3).tr w3⟩
      · rw [if_neg d, if_neg (by have := (hI1.1 (r t - 1) (by omega)).1; rw [i_eql (by omega)]; omega)]
        obtain ⟨-, -, x3⟩ := hI1.fin ht b1 f0 0 (by omega)
        obtain ⟨I3, w1, w2, w3⟩ := cb47 (σ := σ) (R := R) (fr := gX9_layDown n) Q1 hI1 ht (show r t - 1 < 3 by omega) x3
        exact ⟨I3, w1, w2, A1.tr w3⟩
