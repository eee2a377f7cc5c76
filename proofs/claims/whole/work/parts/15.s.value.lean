/-! ===== value: the call ===== -/
/-- offsets are no greater than the tables laid: a group of its own -/
def GOff (I : Nat → Nat → Int32) : Prop := ∃ m : Nat, m ≤ 3 ∧ I 114 83 = Int32.ofInt (m : Int) ∧ ∀ t, t < 3 → ∃ a : Nat, a ≤ m ∧ I 162 t = Int32.ofInt (a : Int)
theorem GOff.kp {I I' : Nat → Nat → Int32} (h : GOff I) (k : Kp [(162, 163), (1000083, 1000084)] I I') : GOff I' := by
  obtain ⟨m, h1, h2, h3⟩ := h
  exact ⟨m, h1, by rw [k 114 83 rfl]; exact h2, fun t ht => by rw [k 162 t rfl]; exact h3 t ht⟩
theorem ncode (x : Int32) : ∃ a : Nat, x = Int32.ofInt (a : Int) := by
  obtain ⟨i, h1, h2, rfl⟩ := rep x
  by_cases c : 0 ≤ i
  · exact ⟨i.toNat, by rw [show (i.toNat : Int) = i by omega]⟩
  · refine ⟨(i + 4294967296).toNat, ?_⟩
    rw [show ((i + 4294967296).toNat : Int) = i + 4294967296 by omega, ← Int32.toInt_inj, ti h1 h2, Int32.toInt_ofInt]
    have s : Int32.size = 4294967296 := rfl
    simp only [Int.bmod_def, s]
    omega
/-- what lies under GTab -/
theorem tab_g {I : Nat → Nat → Int32} (h : GTab I) (h2 : GOff I) : ∃ (r : Nat → Nat) (T : Nat → Nat → Nat), (∀ t, t < 3 → r t ≤ 3) ∧ TI T ∧ TZ T ∧ QtC r T I ∧ QtM r T I ∧ (∀ i, i < 3 → T 0 i = T 1 i) := by
  obtain ⟨m, m1, m2, m3⟩ := h2
  have v01 : ∀ t, t < 3 → ∃ a : Nat, a ≤ 1 ∧ I 160 t = Int32.ofInt (a : Int) := fun t ht => by
    obtain ⟨v, v1, v2, e⟩ := h.e14 t ht
    exact ⟨v.toNat, by omega, by rw [e, show (v.toNat : Int) = v by omega]⟩
  have vr : ∀ t, t < 3 → ∃ a : Nat, a ≤ 3 ∧ I 159 t = Int32.ofInt ((a : Int) - 1) := fun t ht => by
    obtain ⟨v, v1, v2, e⟩ := h.e8 t ht
    exact ⟨(v + 1).toNat, by omega, by rw [e, show ((v + 1).toNat : Int) - 1 = v by omega]⟩
  obtain ⟨b0, p0, q0⟩ := v01 0 (by omega)
  obtain ⟨b1, p1, q1⟩ := v01 1 (by omega)
  obtain ⟨b2, p2, q2⟩ := v01 2 (by omega)
  obtain ⟨r0, s0, t0⟩ := vr 0 (by omega)
  obtain ⟨r1, s1, t1⟩ := vr 1 (by omega)
  obtain ⟨r2, s2, t2⟩ := vr 2 (by omega)
  obtain ⟨a0, u0, w0⟩ := m3 0 (by omega)
  obtain ⟨a1, u1', w1⟩ := m3 1 (by omega)
  obtain ⟨a2, u2', w2⟩ := m3 2 (by omega)
  obtain ⟨o0, x0⟩ := ncode (I 163 0)
  obtain ⟨o1, x1⟩ := ncode (I 163 1)
  obtain ⟨o2, x2⟩ := ncode (I 163 2)
  have ms : m = b0 + b1 + b2 := by
    have e := h.e19
    rw [m2, q0, q1, q2, i_add, i_add] at e
    have := congrArg Int32.toInt e
    rw [ti (by omega) (by omega), ti (by omega) (by omega)] at this
    omega
  have z : ∀ t, t < 3 → ∀ b a : Nat, I 160 t = Int32.ofInt (b : Int) → I 162 t = Int32.ofInt (a : Int) → a ≤ 3 → b = 0 → a = 0 := fun t ht b a e1 e2 ha hb => by
    have := h.e15 t ht (by rw [← h.e13 t ht, e1, hb]; rfl)
    rw [e2, i_eql (by omega)] at this
    omega
  refine ⟨fun t => if t = 0 then r0 else if t = 1 then r1 else r2, fun x t => if x = 4 then m else if t = 0 then (if x ≤ 1 then b0 else if x = 2 then a0 else o0) else if t = 1 then (if x ≤ 1 then b1 else if x = 2 then a1 else o1) else (if x ≤ 1 then b2 else if x = 2 then a2 else o2), ?_, ⟨?_, ?_⟩, ?_, ⟨?_, ?_⟩, ⟨?_, ?_⟩, ?_⟩
  · intro t ht
    rcases (show t = 0 ∨ t = 1 ∨ t = 2 by omega) with rfl | rfl | rfl
    · exact s0
    · exact s1
    · exact s2
  · intro t ht
    rcases (show t = 0 ∨ t = 1 ∨ t = 2 by omega) with rfl | rfl | rfl
    · exact ⟨p0, Nat.le_refl _, u0⟩
    · exact ⟨p1, Nat.le_refl _, u1'⟩
    · exact ⟨p2, Nat.le_refl _, u2'⟩
  · exact ms
  · intro t ht
    rcases (show t = 0 ∨ t = 1 ∨ t = 2 by omega) with rfl | rfl | rfl
    · exact fun e => z 0 (by omega) b0 a0 q0 w0 (by omega) e
    · exact fun e => z 1 (by omega) b1 a1 q1 w1 (by omega) e
    · exact fun e => z 2 (by omega) b2 a2 q2 w2 (by omega) e
  · have g : ∀ (t : Nat) (ht : t < 3) (r b a o : Nat), I 159 t = Int32.ofInt ((r : Int) - 1) → I 160 t = Int32.ofInt (b : Int) → I 162 t = Int32.ofInt (a : Int) → I 163 t = Int32.ofInt (o : Int) → I 37 t = Int32.ofInt (r : Int) ∧ I 39 t = Int32.ofInt (b : Int) ∧ I 40 t = Int32.ofInt (b : Int) ∧ I 38 t = Int32.ofInt (a : Int) ∧ I 41 t = Int32.ofInt (o : Int) := fun t ht r b a o c1 c2 c3 c4 => ⟨by rw [h.e7 t ht, c1, i_addl, show (r : Int) - 1 + 1 = (r : Int) by omega], by rw [h.e11 t ht]; exact c2, by rw [h.e12 t ht, ← h.e13 t ht]; exact c2, by rw [h.e9 t ht]; exact c3, by rw [h.e16 t ht]; exact c4⟩
    intro t ht
    rcases (show t = 0 ∨ t = 1 ∨ t = 2 by omega) with rfl | rfl | rfl
    · exact g 0 (by omega) r0 b0 a0 o0 t0 q0 w0 x0
    · exact g 1 (by omega) r1 b1 a1 o1 t1 q1 w1 x1
    · exact g 2 (by omega) r2 b2 a2 o2 t2 q2 w2 x2
  · show I 27 8 = Int32.ofInt (m : Int)
    rw [h.e17]; exact m2
  · intro t ht
    rcases (show t = 0 ∨ t = 1 ∨ t = 2 by omega) with rfl | rfl | rfl
    · exact ⟨t0, q0, by rw [← h.e13 0 (by omega)]; exact q0, w0, x0⟩
    · exact ⟨t1, q1, by rw [← h.e13 1 (by omega)]; exact q1, w1, x1⟩
    · exact ⟨t2, q2, by rw [← h.e13 2 (by omega)]; exact q2, w2, x2⟩
  · exact m2
  · intro t ht
    rcases (show t = 0 ∨ t = 1 ∨ t = 2 by omega) with rfl | rfl | rfl <;> rfl
/-- the lines of a table -/
theorem tab_l {I : Nat → Nat → Int32} (h : GTab I) {t : Nat} (ht : t < 3) : ∃ (n : Nat) (X Y : Nat → Int), LnB n X Y ∧ I 156 t = Int32.ofInt (n : Int) ∧ (∀ k, k < 8 → I 157 (8 * t + k) = Int32.ofInt (X k)) ∧ (∀ k, k < 8 → I 158 (8 * t + k) = Int32.ofInt (Y k)) := by
  obtain ⟨n, n1, n2, e⟩ := h.e1 t ht
  have vx : ∀ k, k < 8 → I 157 (8 * t + k) = Int32.ofInt (I 157 (8 * t + k)).toInt ∧ -1000000 ≤ (I 157 (8 * t + k)).toInt ∧ (I 157 (8 * t + k)).toInt ≤ 1000000 := fun k hk => by
    obtain ⟨v, v1, v2, e⟩ := h.e4 (8 * t + k) (by omega)
    rw [e, ti (by omega) (by omega)]
    exact ⟨rfl, v1, v2⟩
  have vy : ∀ k, k < 8 → I 158 (8 * t + k) = Int32.ofInt (I 158 (8 * t + k)).toInt ∧ -1000000 ≤ (I 158 (8 * t + k)).toInt ∧ (I 158 (8 * t + k)).toInt ≤ 1000000 := fun k hk => by
    obtain ⟨v, v1, v2, e⟩ := h.e5 (8 * t + k) (by omega)
    rw [e, ti (by omega) (by omega)]
    exact ⟨rfl, v1, v2⟩
  refine ⟨n.toNat, fun k => (I 157 (8 * t + k)).toInt, fun k => (I 158 (8 * t + k)).toInt, ⟨by omega, fun k hk => ?_, fun k hk => ⟨(vx k hk).2.1, (vx k hk).2.2, (vy k hk).2.1, (vy k hk).2.2⟩⟩, by rw [e, show (n.toNat : Int) = n by omega], fun k hk => (vx k hk).1, fun k hk => (vy k hk).1⟩
  have m := h.e6 t k ht (by omega) (by rw [e, i_lt (by omega) (by omega)]; omega)
  exact Int32.lt_iff_toInt_lt.mp m
