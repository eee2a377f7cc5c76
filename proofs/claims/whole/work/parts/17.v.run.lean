/-! ===== a run: TRY: its parts ===== -/
theorem Ch.det {O : Nat → Nat} {n : Nat} : ∀ {m m' a b b' : Nat}, Ch O 0 m a b → Ch O 0 m' a b' → b ≤ n → b' ≤ n → (b = n ∨ O b ≠ 17) → (b' = n ∨ O b' ≠ 17) → b = b' := by
  intro m
  induction m with
  | zero =>
    intro m' a b b' h h' l l' t t'
    obtain rfl : a = b := h
    cases m' with
    | zero => exact h'
    | succ m' =>
      have le := h'.le
      obtain ⟨q, -⟩ := h'
      rcases t with t | t
      · omega
      · exact absurd (q.resolve_right (fun z => by omega)) t
  | succ m ih =>
    intro m' a b b' h h' l l' t t'
    cases m' with
    | zero =>
      obtain rfl : a = b' := h'
      have le := h.le
      obtain ⟨q, -⟩ := h
      rcases t' with t | t
      · omega
      · exact absurd (q.resolve_right (fun z => by omega)) t
    | succ m' =>
      obtain ⟨-, e, q1, q2⟩ := h
      obtain ⟨-, e', q1', q2'⟩ := h'
      rw [q1.uq q1'] at q2
      exact ih q2 q2' l l' t t'
/-- CATCHes lie where their TRY lies -/
theorem Ch.lv {O : Nat → Nat} {n s e : Nat} {X : Nat → Int32} (hE : PBd O n X) (hB : Bd O s e) (he : e ≤ n) (h0 : s = 0 → e = n) : ∀ {m a b : Nat}, Ch O 0 m a b → b ≤ n → s ≤ a → a ≤ e → dq O s a = 1 → s ≤ b ∧ b ≤ e ∧ dq O s b = 1 := by
  intro m
  induction m with
  | zero =>
    intro a b h _ h1 h2 h3
    obtain rfl : a = b := h
    exact ⟨h1, h2, h3⟩
  | succ m ih =>
    intro a b h hb h1 h2 h3
    have le := h.le
    obtain ⟨q, e2, q1, q2⟩ := h
    have le2 := q2.le
    have q17 : O a = 17 := q.resolve_right (fun z => by omega)
    have ae : a < e := by
      by_cases z : a = e
      · by_cases z0 : s = 0
        · have := h0 z0; omega
        · have := (hB.2.2 z0).1
          rw [← z, q17] at this
          omega
      · omega
    obtain ⟨y1, y2⟩ := hB.sk h1 ae h3 q1 (fun z => by rw [h0 z]; exact (hE.mt (by omega) q1).1)
    have := q1.1
    exact ih q2 hb (by omega) (by omega) y2
def paE (E : Nat → Nat → Nat) (t s b e : Nat) : Nat → Nat → Nat := u2 (u2 (u2 (u2 (u2 E t 8 s) t 3 (b + 1)) t 4 e) t 12 b) t 16 (b + 1)
theorem paE_o {E : Nat → Nat → Nat} {t s b e j f : Nat} (h : j ≠ t) : paE E t s b e j f = E j f := by
  unfold paE
  rw [u2n (by omega), u2n (by omega), u2n (by omega), u2n (by omega), u2n (by omega)]
theorem paE_f {E : Nat → Nat → Nat} {t s b e f : Nat} (h : f ≠ 8 ∧ f ≠ 3 ∧ f ≠ 4 ∧ f ≠ 12 ∧ f ≠ 16) : paE E t s b e t f = E t f := by
  unfold paE
  rw [u2n (by omega), u2n (by omega), u2n (by omega), u2n (by omega), u2n (by omega)]
theorem paE_8 {E : Nat → Nat → Nat} {t s b e : Nat} : paE E t s b e t 8 = s ∧ paE E t s b e t 3 = b + 1 ∧ paE E t s b e t 4 = e ∧ paE E t s b e t 12 = b ∧ paE E t s b e t 16 = b + 1 := by
  unfold paE
  refine ⟨?_, ?_, ?_, ?_, ?_⟩
  · simp (disch := omega) only [u2n, u2s]
  · simp (disch := omega) only [u2n, u2s]
  · simp (disch := omega) only [u2n, u2s]
  · simp (disch := omega) only [u2n, u2s]
  · simp (disch := omega) only [u2n, u2s]
/-- frame t is a TRY's -/
theorem Core.tr {n O : Nat → Nat} {A : Nat → Nat → Int32} {vd : Nat → Int32} {G : Nat → Nat → Nat} {N : Nat → Nat → Int32} {nb sb : Nat} {σ : Shp} {I : Nat → Nat → Int32} {J : Nat → Nat → Int64} {R : Nat → Nat → Option Nat} {I' : Nat → Nat → Int32} {J' : Nat → Nat → Int64} {fc : Nat → Nat} {E : Nat → Nat → Nat} {V : Nat → Nat → Int32} {t st ch : Nat} (h : Core n O A vd G N nb sb σ I J R I' J' fc E V (t + 1) st ch) (eo : E t 0 = 16) : ∃ q, t = q + 1 ∧ E t 1 = E q 1 ∧ E t 16 = E t 12 + 1 ∧ op O (E t 1) (E t 2) = 16 ∧ 1 ≤ E q 3 ∧ Mt (op O (E t 1)) (E t 2) (E q 3 - 1) ∧ Mt (op O (E t 1)) (E t 12) (E t 4) ∧ E t 14 = E q 14 ∧ E t 15 = E q 15 ∧ E q 3 ≤ n (E t 1) ∧ I' 143 t = Int32.ofInt ((16 + E t 8 : Nat) : Int) ∧ I' 144 t = Int32.ofInt (E t 1 : Nat) ∧ I' 145 t = Int32.ofInt (E t 12 : Nat) ∧ ((E t 8 = 0 ∧ E t 12 = E t 2 ∧ E t 4 + 1 = E q 3) ∨ (E t 8 = 1 ∧ op O (E t 1) (E t 12) = 17 ∧ ∃ m, Ch (op O (E t 1)) 0 m (E q 3) (E t 12)) ∨ (E t 8 = 2 ∧ op O (E t 1) (E t 12) = 18 ∧ ∃ m, Ch (op O (E t 1)) 0 m (E q 3) (E t 12))) := by
  obtain ⟨F1, F2, F3, -⟩ := h.2.2.2.2.1 t (Nat.lt_succ_self t)
  have B := (F2.resolve_left (fun q => by omega)).resolve_left (fun q => by omega)
  obtain ⟨-, c2, c3, c4, c5, c6, c7, c8, c9, c10, -, -, c13, -⟩ := B
  obtain ⟨q, rfl⟩ : ∃ q, t = q + 1 := ⟨t - 1, by omega⟩
  rw [show q + 1 - 1 = q by omega] at c4 c6 c7 c9 c10 c13
  obtain ⟨m1, m2, m3, -⟩ := F3
  rw [if_pos eo] at m1
  rw [if_neg (by omega)] at m2 m3
  rw [if_neg (by omega)] at c10
  obtain ⟨A0, -, -, -⟩ := h.2.2.2.2.1 q (by omega)
  refine ⟨q, rfl, c4, c3, by rw [c5, eo], c6, c7, c8, c9, c10, ?_, m1, m2, m3, ?_⟩
  · obtain ⟨-, -, -, z1, -, z2, -⟩ := A0
    rw [c4]
    omega
  · rcases c13 eo with ⟨z1, z2⟩ | z | z
    · refine Or.inl ⟨z1, z2, ?_⟩
      rw [z2] at c8
      have := c8.uq c7
      omega
    · exact Or.inr (Or.inl z)
    · exact Or.inr (Or.inr z)
/-- a part of a TRY is entered: the structure -/
theorem Core.pa {n O : Nat → Nat} {A : Nat → Nat → Int32} {vd : Nat → Int32} {G : Nat → Nat → Nat} {N : Nat → Nat → Int32} {nb sb : Nat} {σ : Shp} {I : Nat → Nat → Int32} {J : Nat → Nat → Int64} {R : Nat → Nat → Option Nat} {I' : Nat → Nat → Int32} {J' : Nat → Nat → Int64} {fc : Nat → Nat} {E : Nat → Nat → Nat} {V : Nat → Nat → Int32} {t st ch s b e m q : Nat} {V1 : Nat → Nat → Int32} (hb : PlB n O) (h : Core n O A vd G N nb sb σ I J R I' J' fc E V (t + 1) st ch) (eo : E t 0 = 16) (hq : t = q + 1) (hs : s = 1 ∨ s = 2) (hm : Ch (op O (E t 1)) 0 m (E q 3) b) (bn : b < n (E t 1)) (ob : op O (E t 1) b = 16 + s) (mt : Mt (op O (E t 1)) b e) (v5 : V1 t 5 = V t 5) (v6 : V1 t 6 = V t 6) (v7 : V1 t 7 = V t 7) : RSa n O (paE E t s b e) t ∧ RSb O A (paE E t s b e) V1 t ∧ RPf n O vd I (paE E t s b e) t ∧ e < n (E t 1) := by
  subst hq
  obtain ⟨F1, F2, F3, F4⟩ := h.2.2.2.2.1 (q + 1) (Nat.lt_succ_self _)
  obtain ⟨A0, -, -, A3⟩ := h.2.2.2.2.1 q (by omega)
  have B := (F2.resolve_left (fun z => by omega)).resolve_left (fun z => by omega)
  obtain ⟨c1, c2, c3, c4, c5, c6, c7, c8, c9, c10, c11, c12, c13, c14, c15⟩ := B
  rw [show q + 1 - 1 = q by omega] at c4 c6 c7 c9 c10 c14 c15
  have eb := (F4.2.2.mt bn mt).1
  obtain ⟨a1, a2, a3, a4, a5, a6, a7, a8, a9, a10, a11, a12⟩ := F1
  obtain ⟨z1, z2, z3, z4, z5, z6, z7, z8, z9, z10, z11, z12⟩ := A0
  rw [← c4] at z2 z5 z6 z7
  obtain ⟨y1, y2, y3⟩ := Ch.lv F4.2.2 z2 z6 z7 hm (by omega) z3 z4 z5
  have be : b < E q 4 := by
    by_cases w : b = E q 4
    · by_cases w0 : E q 16 = 0
      · have := z7 w0; omega
      · have := (z2.2.2 w0).1
        rw [← w, ob] at this
        omega
    · omega
  obtain ⟨x1, -⟩ := z2.sk y1 be y3 mt (fun w => by rw [z7 w]; exact eb)
  obtain ⟨p8, p3, p4, p12, p16⟩ := paE_8 (E := E) (t := q + 1) (s := s) (b := b) (e := e)
  have pf : ∀ f, f ≠ 8 ∧ f ≠ 3 ∧ f ≠ 4 ∧ f ≠ 12 ∧ f ≠ 16 → paE E (q + 1) s b e (q + 1) f = E (q + 1) f := fun f hf => paE_f hf
  have po : paE E (q + 1) s b e (q + 1 - 1) = E q := by funext f; exact paE_o (by omega)
  have mt1 := mt.1
  refine ⟨?_, ?_, ?_, eb⟩
  · unfold RSa
    rw [p8, p3, p4, p16, pf 1 (by decide), pf 10 (by decide), pf 13 (by decide), pf 14 (by decide)]
    exact ⟨a1, mt.bd, Nat.le_refl _, by omega, dq_1 _ (Nat.le_refl _), by omega, fun w => by omega, by omega, a9, a10, a11, by omega⟩
  · unfold RSb
    rw [p8, p4, p12, p16, pf 0 (by decide), pf 1 (by decide), pf 2 (by decide), pf 13 (by decide), pf 14 (by decide), pf 15 (by decide), po, v5, v6, v7]
    refine Or.inr (Or.inr ⟨c1, c2, rfl, c4, c5, c6, c7, mt, c9, c10, c11, fun w => absurd eo w, fun _ => ?_, c14, c15⟩)
    rcases hs with rfl | rfl
    · exact Or.inr (Or.inl ⟨rfl, ob, m, hm⟩)
    · exact Or.inr (Or.inr ⟨rfl, ob, m, hm⟩)
  · unfold RPf
    rw [pf 1 (by decide)]
    exact F4
