/-! ===== minute: the call ===== -/
def GSame (I : Nat → Nat → Int32) : Prop := ∀ p, p < 9 → ∃ a m : Nat, I 171 p = Int32.ofInt (a : Int) ∧ I 114 85 = Int32.ofInt (m : Int) ∧ a ≤ m ∧ m ≤ 100000
def KGSame : List (Nat × Nat) := [(171, 172), (1000085, 1000086)]
theorem GSame.kp {I I' : Nat → Nat → Int32} (h : GSame I) (a : Kp KGSame I I') : GSame I' := fun p hp => by
  rw [a 171 p rfl, a 114 85 rfl]
  exact h p hp
theorem LQ.cg {D : Nat → Nat → UInt64} {m : Nat} {I K : Nat → Nat → Int32} {J L : Nat → Nat → Int64} {I' K' : Nat → Nat → Int32} {J' L' : Nat → Nat → Int64} (h : LQ D m I J I' J') (f : ∀ a k, (a = 26 ∧ k = 13) ∨ (26 < a ∧ a < 71) → K a k = I a k) (f' : ∀ a k, (a = 114 ∧ (k = 83 ∨ k = 85)) ∨ (155 < a ∧ a < 184) → K' a k = I' a k) (g : ∀ a k, 51 < a → a < 61 → L a k = J a k) (g' : ∀ a k, 164 < a → a < 181 → L' a k = J' a k) : LQ D m K L K' L' := by
  obtain ⟨pr, w, wr, ar, av, vv, mk, tb, em, em', sm⟩ := h
  refine ⟨fun p hp => (pr p hp).cg (fun k => f _ _ (by omega)) (fun a _ _ => f' _ _ (by omega)) (fun a _ _ => g _ _ (by omega) (by omega)) (fun a _ _ => g' _ _ (by omega) (by omega)), fun k hk => by rw [f 61 k (by omega), f' 174 k (by omega)]; exact w k hk, fun k hk => by rw [f' 174 k (by omega)]; exact wr k hk, fun t ht => (ar t ht).cg (fun k _ => g _ _ (by omega) (by omega)) (fun a k _ => g' _ _ (by omega) (by omega)), fun t ht => ?_, fun t ht => by rw [g 55 t (by omega) (by omega), g' 173 t (by omega) (by omega)]; exact vv t ht, fun t ht => (mk t ht).cg ht (fun a k _ _ => f _ _ (by omega)) (fun a k _ => f' _ _ (by omega)), tb.cg (fun a k _ _ => f _ _ (by omega)) (fun a k _ => f' _ _ (by omega)), by rw [f 26 13 (by omega)]; exact em, by rw [f' 114 85 (by omega)]; exact em', fun p hp => by rw [f' 171 p (by omega)]; exact sm p hp⟩
  obtain ⟨a, b, c, q⟩ := av t ht
  exact ⟨a, b, c, q.cg (fun k => g _ _ (by omega) (by omega)) (fun x _ _ => f' _ _ (by omega))⟩
theorem lq_of {I : Nat → Nat → Int32} {J : Nat → Nat → Int64} {D : Nat → Nat → UInt64} (h : GHouse I J D) (g : GTab I) (o : GOff I) (s : GSame I) : ∃ m : Nat, m ≤ 100000 ∧ LQ D m I J I J := by
  obtain ⟨m0, m1, m2, em⟩ := h.e34
  obtain ⟨m, rfl⟩ : ∃ m : Nat, m0 = (m : Int) := ⟨m0.toNat, by omega⟩
  obtain ⟨r, T, hr, hI, hZ, hC, hM, h01⟩ := tab_g g o
  obtain ⟨n, X, Y, hB, e1, e2, e3⟩ := tab_l g (show 0 < 3 by decide)
  have z8 : ∀ k, 8 * 0 + k = k := fun k => by omega
  refine ⟨m, by omega, fun p hp => ⟨h.e0 p hp, h.e2 p hp, h.e3 p hp, h.e4 p hp, h.e5 p hp, ?_, h.e6 p hp, h.e7 p hp, h.e8 p hp, h.e9 p hp⟩, h.e24, h.e25, fun t ht => ⟨h.e14 t ht, h.e15 t ht, h.e16 t ht, h.e20 t 0 ht (by omega), h.e20 t 1 ht (by omega), h.e20 t 2 ht (by omega), h.e20 t 3 ht (by omega), h.e20 t 4 ht (by omega)⟩, fun t ht => ?_, fun t ht => ⟨h.e10 t ht, h.e11 t ht⟩, fun t ht => ?_, ⟨r, T, n, X, Y, hr, hI, hZ, h01, hC, hM, hB, e1, fun k hk => ?_, fun k hk => ?_, ?_, fun k hk => ?_, fun k hk => ?_⟩, ?_, em, fun p hp => ?_⟩
  · obtain ⟨i, i1, i2, e⟩ := h.e1 p hp
    rcases (show i = 0 ∨ i = 1 by omega) with rfl | rfl
    · exact Or.inl e
    · exact Or.inr e
  · obtain ⟨a, a1, a2, ea⟩ := h.e21 t ht
    obtain ⟨b, b1, b2, eb⟩ := h.e22 t ht
    obtain ⟨c, c1, c2, ec⟩ := h.e23 t ht
    exact ⟨a, b, c, by rw [h.e17 t ht, ea]; exact i_w (by omega), by rw [h.e18 t ht, eb]; exact i_w (by omega), by rw [h.e19 t ht, ec]; exact i_w (by omega), ea, eb, ec, ⟨a1, a2⟩, ⟨b1, b2⟩, ⟨c1, c2⟩⟩
  · obtain ⟨n, n1, n2, n3⟩ := mrk h ht
    refine ⟨n, n1, n2, by rw [h.e26 t ht]; exact n2, fun q => ?_⟩
    obtain ⟨M, W, q1, q2, q3⟩ := n3 q
    exact ⟨M, W, q1, q2, q3, fun k hk => by rw [h.e28 t k ht hk]; exact q2 k hk, fun k hk => by rw [h.e29 t k ht hk]; exact q3 k hk⟩
  · have := e2 k hk; rwa [z8] at this
  · have := e3 k hk; rwa [z8] at this
  · rw [g.e0 0 (by decide)]; exact e1
  · have := g.e2 0 k (by decide) hk
    rw [show I 29 k = _ from this]; exact e2 k hk
  · have := g.e3 0 k (by decide) hk
    rw [show I 33 k = _ from this]; exact e3 k hk
  · rw [h.e33]; exact em
  · obtain ⟨a, m', s1, s2, s3, s4⟩ := s p hp
    rw [em, i_eq (by omega) (by omega)] at s2
    have z := h.e35 p hp
    rw [s1, em, i_eql (by omega), i_eql (by omega)] at z
    exact ⟨a, s1, by omega, by omega⟩
theorem lq_to {I K : Nat → Nat → Int32} {J L : Nat → Nat → Int64} {D : Nat → Nat → UInt64} {m : Nat} (h : GHouse I J D) (hm : m ≤ 100000) (lq : LQ D m K L K L) (k1 : ∀ a k, (63 ≤ a ∧ a ≤ 70) ∨ (181 ≤ a ∧ a ≤ 183) → K a k = I a k) : GHouse K L D ∧ GSame K := by
  obtain ⟨pr, w, wr, ar, av, vv, mk, tb, em, em', sm⟩ := lq
  have rn : ∀ t, t < 3 → (Rn (K 177 t) 0 100 ∧ Rn (K 178 t) 0 100 ∧ Rn (K 179 t) (-4000) 4000) ∧ L (58 + t) 3 = Int32.toInt64 (K 177 t) ∧ L (58 + t) 4 = Int32.toInt64 (K 178 t) ∧ L (58 + t) 5 = Int32.toInt64 (K 179 t) := fun t ht => by
    obtain ⟨a, b, c, j3, j4, j5, i7, i8, i9, ha, hb, hc⟩ := av t ht
    refine ⟨⟨⟨a, ha.1, ha.2, i7⟩, ⟨b, hb.1, hb.2, i8⟩, ⟨c, hc.1, hc.2, i9⟩⟩, ?_, ?_, ?_⟩
    · rw [j3, i7, i_w (by omega)]
    · rw [j4, i8, i_w (by omega)]
    · rw [j5, i9, i_w (by omega)]
  refine ⟨⟨fun p hp => (pr p hp).a0, fun p hp => ?_, fun p hp => (pr p hp).a1, fun p hp => (pr p hp).a2, fun p hp => (pr p hp).a3, fun p hp => (pr p hp).a4, fun p hp => (pr p hp).j2, fun p hp => (pr p hp).n, fun p hp => (pr p hp).j4, fun p hp => (pr p hp).d, fun t ht => (vv t ht).1, fun t ht => (vv t ht).2, h.e12, h.e13, fun t ht => (ar t ht).1, fun t ht => (ar t ht).2.1, fun t ht => (ar t ht).2.2.1, fun t ht => (rn t ht).2.1, fun t ht => (rn t ht).2.2.1, fun t ht => (rn t ht).2.2.2, fun t k ht hk => ?_, fun t ht => (rn t ht).1.1, fun t ht => (rn t ht).1.2.1, fun t ht => (rn t ht).1.2.2, w, wr, fun t ht => ?_, fun t ht => ?_, fun t k ht hk => ?_, fun t k ht hk => ?_, fun k hk => ?_, fun k hk => ?_, fun t k ht hk => ?_, ?_, ⟨(m : Int), by omega, by omega, em'⟩, fun p hp => ?_, fun p hp => ?_⟩, fun p hp => ?_⟩
  · rcases (pr p hp).o with e | e
    · exact ⟨0, by decide, by decide, e⟩
    · exact ⟨1, by decide, by decide, e⟩
  · obtain ⟨r0, r1, r2, r6, r7, r8, r9, r10⟩ := ar t ht
    rcases (show k = 0 ∨ k = 1 ∨ k = 2 ∨ k = 3 ∨ k = 4 by omega) with rfl | rfl | rfl | rfl | rfl
    · exact r6
    · exact r7
    · exact r8
    · exact r9
    · exact r10
  · rw [k1 70 t (by omega), k1 181 t (by omega)]; exact h.e26 t ht
  · rw [k1 181 t (by omega)]; exact h.e27 t ht
  · rw [k1 (63 + t) k (by omega), k1 182 _ (by omega)]; exact h.e28 t k ht hk
  · rw [k1 (67 + t) k (by omega), k1 183 _ (by omega)]; exact h.e29 t k ht hk
  · rw [k1 182 k (by omega)]; exact h.e30 k hk
  · rw [k1 183 k (by omega)]; exact h.e31 k hk
  · rw [k1 181 t (by omega), k1 182 _ (by omega), k1 182 _ (by omega)]; exact h.e32 t k ht hk
  · rw [em, em']
  · obtain ⟨a, a1, a2, a3⟩ := sm p hp
    rw [a1, em', i_eql (by omega), i_eql (by omega)]
    omega
  · obtain ⟨a, a1, a2, a3⟩ := sm p hp
    exact ⟨(a : Int), by omega, by omega, a1⟩
  · obtain ⟨a, a1, a2, a3⟩ := sm p hp
    exact ⟨a, m, a1, em', a2, hm⟩
