/-! ===== tables: how they are laid ===== -/
def finS (t : Nat) (T : Nat → Nat → Nat) : Nat → Nat → Nat := u2 (u2 (u2 T 1 t 1) 3 (T 4 0) t) 4 0 (T 4 0 + 1)
/-- T: 0 begun, 1 finished, 2 offsets, 3 the order, 4 how many; r: the table under, and 1 -/
def layS (r : Nat → Nat) : Nat → Nat → (Nat → Nat → Nat) → (Nat → Nat → Nat)
  | 0, _, T => T
  | f + 1, t, T => if r t = 0 then finS t (u2 T 0 t 1) else finS t (u2 (if u2 T 0 t 1 0 (r t - 1) = 0 then layS r f (r t - 1) (u2 T 0 t 1) else u2 T 0 t 1) 2 t (1 + (if (if u2 T 0 t 1 0 (r t - 1) = 0 then layS r f (r t - 1) (u2 T 0 t 1) else u2 T 0 t 1) 1 (r t - 1) = 0 then 0 else (if u2 T 0 t 1 0 (r t - 1) = 0 then layS r f (r t - 1) (u2 T 0 t 1) else u2 T 0 t 1) 2 (r t - 1))))
def c0 (T : Nat → Nat → Nat) : Nat := (if T 0 0 = 0 then 1 else 0) + (if T 0 1 = 0 then 1 else 0) + (if T 0 2 = 0 then 1 else 0)
def TI (T : Nat → Nat → Nat) : Prop := (∀ i, i < 3 → T 0 i ≤ 1 ∧ T 1 i ≤ T 0 i ∧ T 2 i ≤ T 4 0) ∧ T 4 0 = T 1 0 + T 1 1 + T 1 2
def LYP (T T' : Nat → Nat → Nat) : Prop := ∀ i, i < 3 → (T 0 i = 1 → T' 0 i = 1 ∧ T' 1 i = T 1 i ∧ T' 2 i = T 2 i) ∧ (T 0 i = 0 → T' 0 i = T' 1 i ∧ (T' 1 i = 0 → T' 2 i = T 2 i))
theorem c0_dec {T : Nat → Nat → Nat} {t : Nat} (ht : t < 3) (h : T 0 t = 0) : c0 (u2 T 0 t 1) + 1 = c0 T := by
  unfold c0
  rcases (show t = 0 ∨ t = 1 ∨ t = 2 by omega) with rfl | rfl | rfl
  · rw [u2_self, u2n (by omega), u2n (by omega), if_pos h, if_neg (show ¬ (1 : Nat) = 0 by omega)]; try omega
  · rw [u2_self, u2n (by omega), u2n (by omega), if_pos h, if_neg (show ¬ (1 : Nat) = 0 by omega)]; try omega
  · rw [u2_self, u2n (by omega), u2n (by omega), if_pos h, if_neg (show ¬ (1 : Nat) = 0 by omega)]; try omega
theorem TI.beg {T : Nat → Nat → Nat} {t : Nat} (h : TI T) : TI (u2 T 0 t 1) := by
  refine ⟨fun i hi => ?_, by rw [u2n (by omega), u2n (by omega), u2n (by omega), u2n (by omega)]; exact h.2⟩
  obtain ⟨a, b, c⟩ := h.1 i hi
  by_cases e : i = t
  · subst e
    rw [u2_self, u2n (by omega), u2n (by omega), u2n (by omega)]
    omega
  · rw [u2n (by omega), u2n (by omega), u2n (by omega), u2n (by omega)]
    omega
theorem TI.fin {T : Nat → Nat → Nat} {t : Nat} (h : TI T) (ht : t < 3) (b1 : T 0 t = 1) (f0 : T 1 t = 0) (v : Nat) (hv : v ≤ T 4 0 + 1) : TI (finS t (u2 T 2 t v)) ∧ TI (finS t T) ∧ T 4 0 < 3 := by
  have m := h.2
  have a0 := h.1 0 (by omega)
  have a1 := h.1 1 (by omega)
  have a2 := h.1 2 (by omega)
  have lt : T 4 0 < 3 := by rcases (show t = 0 ∨ t = 1 ∨ t = 2 by omega) with rfl | rfl | rfl <;> omega
  refine ⟨⟨fun i hi => ?_, ?_⟩, ⟨fun i hi => ?_, ?_⟩, lt⟩
  · unfold finS
    have a := h.1 i hi
    rw [u2n (show ¬ (4 = 2 ∧ 0 = t) by omega), u2n (show ¬ (0 = 4 ∧ i = 0) by omega), u2n (show ¬ (0 = 3 ∧ i = T 4 0) by omega), u2n (show ¬ (0 = 1 ∧ i = t) by omega), u2n (show ¬ (0 = 2 ∧ i = t) by omega), u2n (show ¬ (1 = 4 ∧ i = 0) by omega), u2n (show ¬ (1 = 3 ∧ i = T 4 0) by omega), u2n (show ¬ (2 = 4 ∧ i = 0) by omega), u2n (show ¬ (2 = 3 ∧ i = T 4 0) by omega), u2n (show ¬ (2 = 1 ∧ i = t) by omega), u2_self]
    refine ⟨a.1, ?_, ?_⟩
    · by_cases e : i = t
      · subst e; rw [u2_self]; omega
      · rw [u2n (by omega), u2n (by omega)]; exact a.2.1
    · by_cases e : i = t
      · subst e; rw [u2_self]; exact hv
      · rw [u2n (by omega)]; omega
  · unfold finS
    rw [u2_self, u2n (show ¬ (4 = 2 ∧ 0 = t) by omega)]
    have s : ∀ i, u2 (u2 (u2 (u2 T 2 t v) 1 t 1) 3 (T 4 0) t) 4 0 (T 4 0 + 1) 1 i = if i = t then 1 else T 1 i := fun i => by
      rw [u2n (by omega), u2n (by omega)]
      by_cases e : i = t
      · subst e; rw [u2_self, if_pos rfl]
      · rw [u2n (by omega), u2n (by omega), if_neg e]
    rw [s, s, s]
    rcases (show t = 0 ∨ t = 1 ∨ t = 2 by omega) with rfl | rfl | rfl
    · rw [if_pos rfl, if_neg (by omega), if_neg (by omega)]; omega
    · rw [if_neg (by omega), if_pos rfl, if_neg (by omega)]; omega
    · rw [if_neg (by omega), if_neg (by omega), if_pos rfl]; omega
  · unfold finS
    have a := h.1 i hi
    rw [u2n (show ¬ (0 = 4 ∧ i = 0) by omega), u2n (show ¬ (0 = 3 ∧ i = T 4 0) by omega), u2n (show ¬ (0 = 1 ∧ i = t) by omega), u2n (show ¬ (1 = 4 ∧ i = 0) by omega), u2n (show ¬ (1 = 3 ∧ i = T 4 0) by omega), u2n (show ¬ (2 = 4 ∧ i = 0) by omega), u2n (show ¬ (2 = 3 ∧ i = T 4 0) by omega), u2n (show ¬ (2 = 1 ∧ i = t) by omega), u2_self]
    refine ⟨a.1, ?_, by omega⟩
    by_cases e : i = t
    · subst e; rw [u2_self]; omega
    · rw [u2n (by omega)]; exact a.2.1
  · unfold finS
    rw [u2_self]
    have s : ∀ i, u2 (u2 (u2 T 1 t 1) 3 (T 4 0) t) 4 0 (T 4 0 + 1) 1 i = if i = t then 1 else T 1 i := fun i => by
      rw [u2n (by omega), u2n (by omega)]
      by_cases e : i = t
      · subst e; rw [u2_self, if_pos rfl]
      · rw [u2n (by omega), if_neg e]
    rw [s, s, s]
    rcases (show t = 0 ∨ t = 1 ∨ t = 2 by omega) with rfl | rfl | rfl
    · rw [if_pos rfl, if_neg (by omega), if_neg (by omega)]; omega
    · rw [if_neg (by omega), if_pos rfl, if_neg (by omega)]; omega
    · rw [if_neg (by omega), if_neg (by omega), if_pos rfl]; omega
theorem fin_0 {T : Nat → Nat → Nat} {t i : Nat} : finS t T 0 i = T 0 i := by unfold finS; rw [u2n (by omega), u2n (by omega), u2n (by omega)]
theorem fin_1 {T : Nat → Nat → Nat} {t i : Nat} : finS t T 1 i = if i = t then 1 else T 1 i := by
  unfold finS
  rw [u2n (by omega), u2n (by omega)]
  by_cases e : i = t
  · subst e; rw [u2_self, if_pos rfl]
  · rw [u2n (by omega), if_neg e]
theorem fin_2 {T : Nat → Nat → Nat} {t i : Nat} : finS t T 2 i = T 2 i := by unfold finS; rw [u2n (by omega), u2n (by omega), u2n (by omega)]
theorem lay_I {r : Nat → Nat} (hr : ∀ t, t < 3 → r t ≤ 3) : ∀ (f t : Nat) (T : Nat → Nat → Nat), TI T → t < 3 → T 0 t = 0 → c0 T ≤ f → TI (layS r f t T) ∧ LYP T (layS r f t T) ∧ layS r f t T 0 t = 1 := by
  intro f
  induction f with
  | zero =>
    intro t T h ht hb hc
    have := c0_dec ht hb
    omega
  | succ f ih =>
    intro t T h ht hb hc
    have hb1 := h.beg (t := t)
    have dc := c0_dec ht hb
    have b1 : u2 T 0 t 1 0 t = 1 := u2_self _ _ _ _
    have f0 : u2 T 0 t 1 1 t = 0 := by rw [u2n (by omega)]; have := (h.1 t ht).2.1; omega
    unfold layS
    by_cases c : r t = 0
    · rw [if_pos c]
      obtain ⟨-, x1, -⟩ := hb1.fin ht b1 f0 0 (by omega)
      refine ⟨x1, fun i hi => ⟨fun q => ?_, fun q => ?_⟩, by rw [fin_0, u2_self]⟩
      · have ne : i ≠ t := fun e => by rw [e] at q; omega
        rw [fin_0, fin_1, fin_2, if_neg ne, u2n (by omega), u2n (by omega), u2n (by omega)]
        exact ⟨q, rfl, rfl⟩
      · rw [fin_0, fin_1, fin_2]
        by_cases e : i = t
        · subst e; rw [u2_self, if_pos rfl]; exact ⟨rfl, fun z => by omega⟩
        · rw [u2n (by omega), if_neg e, u2n (by omega), u2n (by omega)]
          have := (h.1 i hi).2.1
          exact ⟨by omega, fun _ => rfl⟩
    · rw [if_neg c]
      have ron := hr t ht
      generalize hT2 : (if u2 T 0 t 1 0 (r t - 1) = 0 then layS r f (r t - 1) (u2 T 0 t 1) else u2 T 0 t 1) = T2
      have key2 : TI T2 ∧ LYP (u2 T 0 t 1) T2 := by
        by_cases d : u2 T 0 t 1 0 (r t - 1) = 0
        · rw [if_pos d] at hT2
          rw [← hT2]
          obtain ⟨x1, x2, -⟩ := ih (r t - 1) (u2 T 0 t 1) hb1 (by omega) d (by omega)
          exact ⟨x1, x2⟩
        · rw [if_neg d] at hT2
          rw [← hT2]
          refine ⟨hb1, fun i hi => ⟨fun q => ⟨q, rfl, rfl⟩, fun q => ⟨?_, fun _ => rfl⟩⟩⟩
          have := (hb1.1 i hi).2.1
          omega
      obtain ⟨k1, k2⟩ := key2
      obtain ⟨z1, z2, z3⟩ := (k2 t ht).1 b1
      rw [f0] at z2
      have vb : 1 + (if T2 1 (r t - 1) = 0 then 0 else T2 2 (r t - 1)) ≤ T2 4 0 + 1 := by
        have := (k1.1 (r t - 1) (by omega)).2.2
        split <;> omega
      obtain ⟨x1, -, -⟩ := k1.fin ht z1 z2 _ vb
      refine ⟨x1, fun i hi => ⟨fun q => ?_, fun q => ?_⟩, ?_⟩
      · have ne : i ≠ t := fun e => by rw [e] at q; omega
        obtain ⟨y1, y2, y3⟩ := (k2 i hi).1 (by rw [u2n (by omega)]; exact q)
        rw [fin_0, fin_1, fin_2, if_neg ne, u2n (by omega), u2n (by omega), u2n (by omega), y1, y2, y3, u2n (by omega), u2n (by omega)]
        exact ⟨rfl, rfl, rfl⟩
      · rw [fin_0, fin_1, fin_2]
        by_cases e : i = t
        · subst e; rw [u2n (by omega), if_pos rfl]; exact ⟨z1, fun z => by omega⟩
        · have y := (k2 i hi).2 (by rw [u2n (by omega)]; exact q)
          rw [u2n (by omega), if_neg e, u2n (by omega), u2n (by omega)]
          rw [u2n (show ¬ (2 = 0 ∧ i = t) by omega)] at y
          exact y
      · rw [fin_0, u2n (by omega)]; exact z1
def QtC (r : Nat → Nat) (T : Nat → Nat → Nat) (I : Nat → Nat → Int32) : Prop := (∀ i, i < 3 → I 37 i = Int32.ofInt (r i : Int) ∧ I 39 i = Int32.ofInt (T 0 i : Int) ∧ I 40 i = Int32.ofInt (T 1 i : Int) ∧ I 38 i = Int32.ofInt (T 2 i : Int) ∧ I 41 i = Int32.ofInt (T 3 i : Int)) ∧ I 27 8 = Int32.ofInt (T 4 0 : Int)
def QtM (r : Nat → Nat) (T : Nat → Nat → Nat) (I : Nat → Nat → Int32) : Prop := (∀ i, i < 3 → I 159 i = Int32.ofInt ((r i : Int) - 1) ∧ I 160 i = Int32.ofInt (T 0 i : Int) ∧ I 161 i = Int32.ofInt (T 1 i : Int) ∧ I 162 i = Int32.ofInt (T 2 i : Int) ∧ I 163 i = Int32.ofInt (T 3 i : Int)) ∧ I 114 83 = Int32.ofInt (T 4 0 : Int)
