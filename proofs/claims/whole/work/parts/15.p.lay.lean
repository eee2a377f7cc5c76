/-! ===== tables: the model lays them so ===== -/
theorem QtM.s0 {r : Nat → Nat} {T : Nat → Nat → Nat} {I : Nat → Nat → Int32} {t : Nat} (h : QtM r T I) : QtM r (u2 T 0 t 1) (u2 I 160 t 1) := by
  refine ⟨fun i hi => ?_, by rw [u2n (by omega), u2n (by omega)]; exact h.2⟩
  obtain ⟨a, b, c, d, e⟩ := h.1 i hi
  refine ⟨by rw [u2n (by omega)]; exact a, ?_, by rw [u2n (by omega), u2n (by omega)]; exact c, by rw [u2n (by omega), u2n (by omega)]; exact d, by rw [u2n (by omega), u2n (by omega)]; exact e⟩
  by_cases q : i = t
  · subst q; rw [u2_self, u2_self]; rfl
  · rw [u2n (by omega), u2n (by omega)]; exact b
theorem QtM.s2 {r : Nat → Nat} {T : Nat → Nat → Nat} {I : Nat → Nat → Int32} {t v : Nat} (h : QtM r T I) : QtM r (u2 T 2 t v) (u2 I 162 t (Int32.ofInt (v : Int))) := by
  refine ⟨fun i hi => ?_, by rw [u2n (by omega), u2n (by omega)]; exact h.2⟩
  obtain ⟨a, b, c, d, e⟩ := h.1 i hi
  refine ⟨by rw [u2n (by omega)]; exact a, by rw [u2n (by omega), u2n (by omega)]; exact b, by rw [u2n (by omega), u2n (by omega)]; exact c, ?_, by rw [u2n (by omega), u2n (by omega)]; exact e⟩
  by_cases q : i = t
  · subst q; rw [u2_self, u2_self]
  · rw [u2n (by omega), u2n (by omega)]; exact d
theorem QtM.fn {r : Nat → Nat} {T : Nat → Nat → Nat} {I : Nat → Nat → Int32} {t : Nat} (h : QtM r T I) : QtM r (finS t T) (u2 (u2 (u2 I 161 t 1) 163 (T 4 0) (Int32.ofInt (t : Int))) 114 83 (Int32.ofInt ((T 4 0 + 1 : Nat) : Int))) := by
  unfold finS
  refine ⟨fun i hi => ?_, by rw [u2_self, u2_self]⟩
  obtain ⟨a, b, c, d, e⟩ := h.1 i hi
  refine ⟨by rw [u2n (by omega), u2n (by omega), u2n (by omega)]; exact a, by rw [u2n (by omega), u2n (by omega), u2n (by omega), u2n (by omega), u2n (by omega), u2n (by omega)]; exact b, ?_, by rw [u2n (by omega), u2n (by omega), u2n (by omega), u2n (by omega), u2n (by omega), u2n (by omega)]; exact d, ?_⟩
  · rw [u2n (show ¬ (161 = 114 ∧ i = 83) by omega), u2n (show ¬ (161 = 163 ∧ i = T 4 0) by omega), u2n (show ¬ (1 = 4 ∧ i = 0) by omega), u2n (show ¬ (1 = 3 ∧ i = T 4 0) by omega)]
    by_cases q : i = t
    · subst q; rw [u2_self, u2_self]; rfl
    · rw [u2n (by omega), u2n (by omega)]; exact c
  · rw [u2n (show ¬ (163 = 114 ∧ i = 83) by omega), u2n (show ¬ (3 = 4 ∧ i = 0) by omega)]
    by_cases q : i = T 4 0
    · rw [u2s ⟨rfl, q⟩, u2s ⟨rfl, q⟩]
    · rw [u2n (by omega), u2n (by omega), u2n (by omega), u2n (by omega)]; exact e
theorem mb108 {q : (Nat → Nat → Int32) → Int32 → Option (Nat → Nat → Int32)} {r : Nat → Nat} {T : Nat → Nat → Nat} {I : Nat → Nat → Int32} {σ : Shp} {R : Nat → Nat → Option Nat} {t v : Nat} {x2 : Int32} (hS : Skel σ R) (h : QtM r T I) (ht : t < 3) (hm : T 4 0 < 3) : gX12_lay_b108 q σ R I x2 (Int32.ofInt t) (some 162) (Int32.ofInt t) (Int32.ofInt (v : Int)) = q (u2 (u2 (u2 (u2 I 162 t (Int32.ofInt (v : Int))) 161 t 1) 163 (T 4 0) (Int32.ofInt (t : Int))) 114 83 (Int32.ofInt ((T 4 0 + 1 : Nat) : Int))) x2 := by
  have k : kdx σ 162 = 20 := hS.k 162 20 (by decide) rfl
  have l : lnx σ 162 = 3 := hS.l 162 3 (by decide) rfl
  unfold gX12_lay_b108
  dsimp only
  rw [ob_some, if_pos k, l, if_pos (i3 ht), if_pos (i3 ht), nar1, t41 (t := t) (by omega), u2n (show ¬ (114 = 161 ∧ 83 = t) by omega), u2n (show ¬ (114 = 162 ∧ 83 = t) by omega), h.2, if_pos (i3 hm), t41 (t := T 4 0) (by omega), u2n (show ¬ (114 = 163 ∧ 83 = T 4 0) by omega), u2n (show ¬ (114 = 161 ∧ 83 = t) by omega), u2n (show ¬ (114 = 162 ∧ 83 = t) by omega), h.2, iadd1]
theorem u2_same {T : Nat → Nat → Nat} {a k v : Nat} (h : T a k = v) : u2 T a k v = T := by
  funext x y
  by_cases c : x = a ∧ y = k
  · rw [u2s c, c.1, c.2, h]
  · rw [u2n c]
/-- a table comes off the pile -/
theorem pop {r : Nat → Nat} {T : Nat → Nat → Nat} {I : Nat → Nat → Int32} {σ : Shp} {R : Nat → Nat → Option Nat} {t w f : Nat} (hS : Skel σ R) (hr : ∀ t, t < 3 → r t ≤ 3) (h : QtM r T I) (hI : TI T) (ht : t < 3) (hw : w < 3) (hm : T 4 0 < 3) (e : I 164 w = Int32.ofInt (t : Int)) (z : T 2 t = 0) : ∃ I', gX12_lay_l45 σ R (f + 1) I (Int32.ofInt ((w + 1 : Nat) : Int)) = gX12_lay_l45 σ R f I' (Int32.ofInt (w : Int)) ∧ QtM r (if r t = 0 then finS t T else finS t (u2 T 2 t (1 + (if T 1 (r t - 1) = 0 then 0 else T 2 (r t - 1))))) I' ∧ Ag [(161, 164), (1000083, 1000084)] I I' := by
  have x1 : Int32.ofInt ((w + 1 : Nat) : Int) + -1 = Int32.ofInt (w : Int) := by
    rw [show (-1 : Int32) = Int32.ofInt (-1) from by decide, i_add, show ((w + 1 : Nat) : Int) + -1 = (w : Int) by omega]
  have ron := hr t ht
  have k := fun v => QtM.s2 (t := t) (v := v) h
  have m4 : ∀ v, u2 T 2 t v 4 0 = T 4 0 := fun v => u2n (by omega)
  rw [gX12_lay_l45, if_neg (by rw [i_lel (by omega)]; omega)]
  dsimp only
  rw [x1, if_pos (i3 hw), t41 (t := w) (by omega), e, if_pos (i3 ht), t41 (t := t) (by omega), (h.1 t ht).1]
  by_cases c : r t = 0
  · rw [if_pos c, if_pos (by rw [c]; decide), show (0 : Int32) = Int32.ofInt ((0 : Nat) : Int) from rfl, mb108 hS h ht hm]
    have q := (k 0).fn (t := t)
    rw [m4, u2_same z] at q
    exact ⟨_, rfl, q, Ag.st (Ag.st (Ag.st (Ag.st Ag.rf rfl) rfl) rfl) rfl⟩
  · have on : (r t : Int) - 1 = ((r t - 1 : Nat) : Int) := by omega
    have f1 := (hI.1 (r t - 1) (by omega)).2.1
    have f2 := (hI.1 (r t - 1) (by omega)).1
    rw [if_neg c, on, if_neg (by rw [show (-1 : Int32) = Int32.ofInt (-1) from by decide, i_eq (by omega) (by omega)]; omega), if_pos (i3 (by omega)), t41 (t := r t - 1) (by omega), (h.1 (r t - 1) (by omega)).2.2.1]
    by_cases d : T 1 (r t - 1) = 0
    · rw [if_pos d, if_pos (by rw [d]; rfl), show (1 : Int32) + 0 = Int32.ofInt ((1 + 0 : Nat) : Int) from rfl, mb108 hS h ht hm]
      have q := (k (1 + 0)).fn (t := t)
      rw [m4] at q
      exact ⟨_, rfl, q, Ag.st (Ag.st (Ag.st (Ag.st Ag.rf rfl) rfl) rfl) rfl⟩
    · rw [if_neg d, if_neg (by rw [i_eql (by omega)]; omega), if_pos (i3p (by omega)), (h.1 (r t - 1) (by omega)).2.2.2.1, one_i, iadd, mb108 hS h ht hm]
      have q := (k (1 + T 2 (r t - 1))).fn (t := t)
      rw [m4] at q
      exact ⟨_, rfl, q, Ag.st (Ag.st (Ag.st (Ag.st Ag.rf rfl) rfl) rfl) rfl⟩
theorem layM {r : Nat → Nat} {σ : Shp} {R : Nat → Nat → Option Nat} {F : Nat} (hS : Skel σ R) (hF : FUx = F) (hF5 : 5 ≤ F) (hr : ∀ t, t < 3 → r t ≤ 3) : ∀ (f t w n : Nat) (T : Nat → Nat → Nat) (I : Nat → Nat → Int32), QtM r T I → TI T → TZ T → t < 3 → T 0 t = 0 → c0 T ≤ f → w + c0 T ≤ 3 → f < n → ∃ (K : Nat) (I' : Nat → Nat → Int32), K ≤ c0 T ∧ gX12_lay_l4 σ R n I (Int32.ofInt w) (Int32.ofInt t) = gX12_lay_l45 σ R (F - K) I' (Int32.ofInt w) ∧ QtM r (layS r f t T) I' ∧ (∀ q, q < w → I' 164 q = I 164 q) ∧ Ag [(160, 165), (1000083, 1000084)] I I' := by
  intro f
  induction f with
  | zero =>
    intro t w n T I h hI hZ ht hb hc
    have := c0_dec ht hb
    omega
  | succ f ih =>
    intro t w n T I h hI hZ ht hb hc hw hn
    obtain ⟨n, rfl⟩ : ∃ m, n = m + 1 + 1 := ⟨n - 2, by omega⟩
    have dc := c0_dec ht hb
    have c3 : c0 T ≤ 3 := by unfold c0; split <;> split <;> split <;> omega
    have b1 : u2 T 0 t 1 0 t = 1 := u2_self _ _ _ _
    have t0 : T 1 t = 0 := by have := (hI.1 t ht).2.1; omega
    have f0 : u2 T 0 t 1 1 t = 0 := by rw [u2n (by omega)]; exact t0
    have hI1 := hI.beg (t := t)
    have ron := hr t ht
    have Q1 : QtM r (u2 T 0 t 1) (u2 (u2 I 160 t 1) 164 w (Int32.ofInt (t : Int))) := by
      have q := h.s0 (t := t)
      exact ⟨fun i hi => ⟨by rw [u2n (by omega)]; exact (q.1 i hi).1, by rw [u2n (by omega)]; exact (q.1 i hi).2.1, by rw [u2n (by omega)]; exact (q.1 i hi).2.2.1, by rw [u2n (by omega)]; exact (q.1 i hi).2.2.2.1, by rw [u2n (by omega)]; exact (q.1 i hi).2.2.2.2⟩, by rw [u2n (by omega)]; exact q.2⟩
    have A1 : Ag [(160, 165), (1000083, 1000084)] I (u2 (u2 I 160 t 1) 164 w (Int32.ofInt (t : Int))) := Ag.st (Ag.st Ag.rf rfl) rfl
    have W1 : ∀ q, q < w → u2 (u2 I 160 t 1) 164 w (Int32.ofInt (t : Int)) 164 q = I 164 q := fun q hq => by rw [u2n (by omega), u2n (by omega)]
    have st : gX12_lay_l4 σ R (n + 1 + 1) I (Int32.ofInt w) (Int32.ofInt t) = gX12_lay_l4 σ R (n + 1) (u2 (u2 I 160 t 1) 164 w (Int32.ofInt (t : Int))) (Int32.ofInt ((w + 1 : Nat) : Int)) (Int32.ofInt ((r t : Int) - 1)) := by
      rw [gX12_lay_l4, if_neg (by rw [show (-1 : Int32) = Int32.ofInt (-1) from by decide, i_eq (by omega) (by omega)]; omega), if_pos (i3 ht), t41 (t := t) (by omega), (h.1 t ht).2.1, if_pos (by rw [hb]; rfl), nar1]
      dsimp only
      rw [if_pos (i3 (by omega)), if_pos (i3p ht), t41 (t := w) (by omega), (Q1.1 t ht).1, iadd1]
    rw [st]
    -- what comes off the pile at w
    have fin : ∀ (K : Nat) (T2 : Nat → Nat → Nat) (I2 : Nat → Nat → Int32), K + 1 ≤ c0 T → QtM r T2 I2 → TI T2 → T2 0 t = 1 → T2 1 t = 0 → T2 2 t = 0 → (∀ q, q < w + 1 → I2 164 q = u2 (u2 I 160 t 1) 164 w (Int32.ofInt (t : Int)) 164 q) → Ag [(160, 165), (1000083, 1000084)] I I2 → ∃ (K' : Nat) (I' : Nat → Nat → Int32), K' ≤ c0 T ∧ gX12_lay_l45 σ R (F - K) I2 (Int32.ofInt ((w + 1 : Nat) : Int)) = gX12_lay_l45 σ R (F - K') I' (Int32.ofInt w) ∧ QtM r (if r t = 0 then finS t T2 else finS t (u2 T2 2 t (1 + (if T2 1 (r t - 1) = 0 then 0 else T2 2 (r t - 1))))) I' ∧ (∀ q, q < w → I' 164 q = I 164 q) ∧ Ag [(160, 165), (1000083, 1000084)] I I' := by
      intro K T2 I2 hK hQ hI2 g1 g2 g3 hq hA
      obtain ⟨-, -, x3⟩ := hI2.fin ht g1 g2 0 (by omega)
      have e : I2 164 w = Int32.ofInt (t : Int) := by rw [hq w (by omega), u2_self]
      obtain ⟨I', y1, y2, y3⟩ := pop (f := F - K - 1) hS hr hQ hI2 ht (show w < 3 by omega) x3 e g3
      rw [show F - K - 1 + 1 = F - K by omega] at y1
      refine ⟨K + 1, I', hK, ?_, y2, fun q hq' => ?_, hA.tr (y3.mv rfl)⟩
      · rw [y1, show F - K - 1 = F - (K + 1) by omega]
      · rw [y3 164 q rfl, hq q (by omega), W1 q hq']
    unfold layS
    by_cases c : r t = 0
    · have f1 := fin 0 (u2 T 0 t 1) _ (by omega) Q1 hI1 b1 f0 (by rw [u2n (by omega)]; exact hZ t ht t0) (fun _ _ => rfl) A1
      rw [if_pos c] at f1 ⊢
      rw [c, gX12_lay_l4, if_pos (by decide), hF]
      exact f1
    · have on : (r t : Int) - 1 = ((r t - 1 : Nat) : Int) := by omega
      rw [if_neg c, on]
      by_cases d : u2 T 0 t 1 0 (r t - 1) = 0
      · rw [if_pos d]
        have d2 := c0_dec (T := u2 T 0 t 1) (t := r t - 1) (by omega) d
        have hZ1 : TZ (u2 T 0 t 1) := fun i hi q => by rw [u2n (by omega)] at q ⊢; exact hZ i hi q
        obtain ⟨x1, x2, -⟩ := lay_I hr f (r t - 1) (u2 T 0 t 1) hI1 (by omega) d (by omega)
        obtain ⟨K, I2, y1, y2, y3, y4, y5⟩ := ih (r t - 1) (w + 1) (n + 1) (u2 T 0 t 1) _ Q1 hI1 hZ1 (by omega) d (by omega) (by omega) (by omega)
        obtain ⟨z1, z2, z3⟩ := (x2 t ht).1 b1
        rw [f0] at z2
        have f1 := fin K _ I2 (by omega) y3 x1 z1 z2 (by rw [z3, u2n (by omega)]; exact hZ t ht t0) y4 (A1.tr y5)
        rw [if_neg c] at f1
        rw [y2]
        exact f1
      · rw [if_neg d]
        have f1 := fin 0 (u2 T 0 t 1) _ (by omega) Q1 hI1 b1 f0 (by rw [u2n (by omega)]; exact hZ t ht t0) (fun _ _ => rfl) A1
        rw [if_neg c] at f1
        rw [gX12_lay_l4, if_neg (by rw [show (-1 : Int32) = Int32.ofInt (-1) from by decide, i_eq (by omega) (by omega)]; omega), if_pos (i3 (by omega)), t41 (t := r t - 1) (by omega), (Q1.1 (r t - 1) (by omega)).2.1, if_neg (by have := (hI1.1 (r t - 1) (by omega)).1; rw [i_eql (by omega)]; omega), hF]
        exact f1
