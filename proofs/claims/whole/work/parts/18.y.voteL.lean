/-! ===== minute: both votes ===== -/
/-- a probe of the class and the model's -/
def PR (I : Nat → Nat → Int32) (J : Nat → Nat → Int64) (I' : Nat → Nat → Int32) (J' : Nat → Nat → Int64) (D : Nat → Nat → UInt64) (p : Nat) : Prop := I (43 + p) 0 = 1 - I' 167 p ∧ I (43 + p) 1 = I' 168 p ∧ I (43 + p) 2 = I' 169 p ∧ I (43 + p) 3 = I' 170 p ∧ I (43 + p) 4 = I' 171 p ∧ (I' 167 p = 0 ∨ I' 167 p = 1) ∧ J 52 p = J' 165 p ∧ NumC (J' 165 p) ∧ J 54 p = J' 166 p ∧ DOf (J' 165 p) (D 53 p)
theorem PR.a0 {I I' : Nat → Nat → Int32} {J J' : Nat → Nat → Int64} {D : Nat → Nat → UInt64} {p : Nat} (h : PR I J I' J' D p) : I (43 + p) 0 = 1 - I' 167 p := h.1
theorem PR.a1 {I I' : Nat → Nat → Int32} {J J' : Nat → Nat → Int64} {D : Nat → Nat → UInt64} {p : Nat} (h : PR I J I' J' D p) : I (43 + p) 1 = I' 168 p := h.2.1
theorem PR.a2 {I I' : Nat → Nat → Int32} {J J' : Nat → Nat → Int64} {D : Nat → Nat → UInt64} {p : Nat} (h : PR I J I' J' D p) : I (43 + p) 2 = I' 169 p := h.2.2.1
theorem PR.a3 {I I' : Nat → Nat → Int32} {J J' : Nat → Nat → Int64} {D : Nat → Nat → UInt64} {p : Nat} (h : PR I J I' J' D p) : I (43 + p) 3 = I' 170 p := h.2.2.2.1
theorem PR.a4 {I I' : Nat → Nat → Int32} {J J' : Nat → Nat → Int64} {D : Nat → Nat → UInt64} {p : Nat} (h : PR I J I' J' D p) : I (43 + p) 4 = I' 171 p := h.2.2.2.2.1
theorem PR.o {I I' : Nat → Nat → Int32} {J J' : Nat → Nat → Int64} {D : Nat → Nat → UInt64} {p : Nat} (h : PR I J I' J' D p) : (I' 167 p = 0 ∨ I' 167 p = 1) := h.2.2.2.2.2.1
theorem PR.j2 {I I' : Nat → Nat → Int32} {J J' : Nat → Nat → Int64} {D : Nat → Nat → UInt64} {p : Nat} (h : PR I J I' J' D p) : J 52 p = J' 165 p := h.2.2.2.2.2.2.1
theorem PR.n {I I' : Nat → Nat → Int32} {J J' : Nat → Nat → Int64} {D : Nat → Nat → UInt64} {p : Nat} (h : PR I J I' J' D p) : NumC (J' 165 p) := h.2.2.2.2.2.2.2.1
theorem PR.j4 {I I' : Nat → Nat → Int32} {J J' : Nat → Nat → Int64} {D : Nat → Nat → UInt64} {p : Nat} (h : PR I J I' J' D p) : J 54 p = J' 166 p := h.2.2.2.2.2.2.2.2.1
theorem PR.d {I I' : Nat → Nat → Int32} {J J' : Nat → Nat → Int64} {D : Nat → Nat → UInt64} {p : Nat} (h : PR I J I' J' D p) : DOf (J' 165 p) (D 53 p) := h.2.2.2.2.2.2.2.2.2
theorem num_rd {b : Int64} (h : NumC b) : (fX11_isNumber b ≠ 0) = (b ≠ 9221120237041090560) := by
  apply propext
  by_cases c : isNum b
  · rw [isn_T c]
    exact ⟨fun _ q => not_num (q ▸ c), fun _ => by decide⟩
  · rw [isn_F c]
    rcases h with h | h
    · exact absurd h c
    · exact ⟨fun q => absurd rfl q, fun q => absurd h q⟩
theorem dec_eq {p q : Prop} [Decidable p] [Decidable q] (h : p = q) : decide p = decide q := by subst h; congr
theorem jd_01 {st : Bool} {o w f n : Int32} (h : o = 0 ∨ o = 1) : (jd st o w f n).1 = 0 ∨ (jd st o w f n).1 = 1 := by
  cases st
  · rcases h with rfl | rfl
    · by_cases c : f < 3
      · rw [jd_0a c]; exact Or.inl rfl
      · rw [jd_0b c]; exact Or.inr rfl
    · by_cases c : n < 5
      · rw [jd_1a c]; exact Or.inr rfl
      · rw [jd_1b c]; exact Or.inl rfl
  · rw [jd_t]; exact Or.inr rfl
section
variable {I I' : Nat → Nat → Int32} {J J' : Nat → Nat → Int64} {D : Nat → Nat → UInt64} {p : Nat}
theorem PR.rd (h : PR I J I' J' D p) : decide (fX11_isNumber (J 52 p) ≠ 0) = rdM J' p := by
  unfold rdM
  rw [h.j2]
  exact dec_eq (num_rd h.n)
theorem PR.in_ (h : PR I J I' J' D p) : inr I J p = inM I' J' p := by
  unfold inr inM
  rw [h.rd, Bool.and_comm]
  congr 1
  apply dec_eq
  rw [h.a0]
  rcases h.o with e | e <;> rw [e] <;> decide
theorem PR.fr (h : PR I J I' J' D p) (hD : D 26 7 = D 114 94) (v : Int64) : frC J D p v = frM J' D p v := by
  unfold frC frM
  rw [h.j2, hD]
theorem PR.sm (h : PR I J I' J' D p) (hs : I' 171 p = 0 ↔ I' 114 85 ≤ 1) : fsmH I J p = smM I' J' p ∧ fmvH I J p = mvM I' J' p := by
  unfold fsmH fmvH smM mvM
  rw [h.a4, h.j2, h.j4]
  by_cases c : I' 171 p = 0
  · rw [if_pos c, if_pos c, if_pos (hs.mp c), if_pos (hs.mp c)]
    exact ⟨rfl, rfl⟩
  · have c2 : ¬ I' 114 85 ≤ 1 := fun q => c (hs.mpr q)
    rw [if_neg c, if_neg c, if_neg c2, if_neg c2]
    exact ⟨rfl, rfl⟩
theorem sm_mv (c : ¬ smM I' J' p < 8) : mvM I' J' p = 0 := by
  unfold smM at c
  unfold mvM
  by_cases d : I' 114 85 ≤ 1
  · rw [if_pos d]
  · rw [if_neg d] at c ⊢
    by_cases e : J' 165 p = J' 166 p
    · rw [if_pos e]
    · rw [if_neg e] at c
      exact absurd (by decide) c
theorem mv_01 : mvM I' J' p = 0 ∨ mvM I' J' p = 1 := by
  unfold mvM
  by_cases d : I' 114 85 ≤ 1
  · rw [if_pos d]; exact Or.inl rfl
  · rw [if_neg d]
    by_cases e : J' 165 p = J' 166 p
    · rw [if_pos e]; exact Or.inl rfl
    · rw [if_neg e]; exact Or.inr rfl
theorem ot_or {h : Nat} {m : Nat → Int32} (hm : ∀ q, m q = 0 ∨ m q = 1) (hp : p = h ∨ p = h + 3 ∨ p = h + 6) (z : m p = 0) : (or3 (m h) (m (h + 3)) (m (h + 6)) ≠ 0) = (othS m h p ≠ 0) := by
  have q10 : ¬ (1 : Int32) = 0 := by decide
  have f3 : ¬ (h + 3 = h) := by omega
  have f6 : ¬ (h + 6 = h) := by omega
  have f03 : ¬ (h = h + 3) := by omega
  have f63 : ¬ (h + 6 = h + 3) := by omega
  have f06 : ¬ (h = h + 6) := by omega
  have f36 : ¬ (h + 3 = h + 6) := by omega
  unfold or3 othS otS
  rcases hp with rfl | rfl | rfl
  · rcases hm (p + 3) with a | a <;> rcases hm (p + 6) with b | b <;> simp only [z, a, b, f3, f6, q10, if_true, if_false]
  · rcases hm h with a | a <;> rcases hm (h + 6) with b | b <;> simp only [z, a, b, f03, f63, q10, if_true, if_false]
  · rcases hm h with a | a <;> rcases hm (h + 3) with b | b <;> simp only [z, a, b, f06, f36, q10, if_true, if_false]
end
theorem res_eq {I I' : Nat → Nat → Int32} {J J' : Nat → Nat → Int64} {D : Nat → Nat → UInt64} {h p : Nat} (hh : h < 3) (pr : ∀ p, p < 9 → PR I J I' J' D p) (hs : ∀ p, (p = h ∨ p = h + 3 ∨ p = h + 6) → (I' 171 p = 0 ↔ I' 114 85 ≤ 1)) (hD : D 26 7 = D 114 94) (hp : p = h ∨ p = h + 3 ∨ p = h + 6) : resC I J D h p (I' 167 p) = resM I' J' D h p (valM3 I' J' h) ∧ valC3 I J h = valM3 I' J' h ∧ NumC (valM3 I' J' h) := by
  have hp9 : p < 9 := by omega
  have ev : valC3 I J h = valM3 I' J' h := by
    unfold valC3 valM3
    rw [(pr h (by omega)).in_, (pr (h + 3) (by omega)).in_, (pr (h + 6) (by omega)).in_, (pr h (by omega)).j2, (pr (h + 3) (by omega)).j2, (pr (h + 6) (by omega)).j2]
  have nv : NumC (valM3 I' J' h) := by
    have vm : valM3 I' J' h = 9221120237041090560 ∨ J' 165 h = valM3 I' J' h ∨ J' 165 (h + 3) = valM3 I' J' h ∨ J' 165 (h + 6) = valM3 I' J' h := vC_mem
    rcases vm with q | q | q | q
    · exact Or.inr q
    · rw [← q]; exact (pr h (by omega)).n
    · rw [← q]; exact (pr (h + 3) (by omega)).n
    · rw [← q]; exact (pr (h + 6) (by omega)).n
  refine ⟨?_, ev, nv⟩
  have P := pr p hp9
  have jg : (jgd J h (valC3 I J h) && decide (fX11_isNumber (J 52 p) ≠ 0)) = (rdM J' p && (decide (nrM J' h = 3) && decide (valM3 I' J' h ≠ 9221120237041090560))) := by
    unfold jgd
    rw [P.rd, ev, dec_eq (num_rd nv), Bool.and_comm]
    congr 1
    rw [Bool.and_comm]
    congr 2
    unfold nrd nrM
    rw [(pr h (by omega)).rd, (pr (h + 3) (by omega)).rd, (pr (h + 6) (by omega)).rd]
  have s0 := (pr h (by omega)).sm (hs h (Or.inl rfl))
  have s3 := (pr (h + 3) (by omega)).sm (hs (h + 3) (Or.inr (Or.inl rfl)))
  have s6 := (pr (h + 6) (by omega)).sm (hs (h + 6) (Or.inr (Or.inr rfl)))
  have sp := P.sm (hs p hp)
  have st : decide (fX11_isNumber (J 52 p) ≠ 0 ∧ ¬ fsmH I J p < 8 ∧ or3 (fmvH I J h) (fmvH I J (h + 3)) (fmvH I J (h + 6)) ≠ 0) = (rdM J' p && decide (¬ smM I' J' p < 8 ∧ othS (fun q => mvM I' J' q) h p ≠ 0)) := by
    rw [← P.rd, ← Bool.decide_and]
    apply dec_eq
    rw [s0.2, s3.2, s6.2, sp.1]
    apply propext
    refine and_congr_right fun _ => and_congr_right fun c => ?_
    have := ot_or (m := fun q => mvM I' J' q) (fun q => mv_01) hp (sm_mv c)
    rw [this]
  unfold resC resM
  rw [st, jg, ev, P.fr hD, P.a1, P.a2, P.a3]
theorem vote_L {σ : Shp} {R : Nat → Nat → Option Nat} {I I' : Nat → Nat → Int32} {J J' : Nat → Nat → Int64} {D : Nat → Nat → UInt64} {h m : Nat} (hS : Skel σ R) (hh : h < 3) (hm : m < 100000) (pr : ∀ p, p < 9 → PR I J I' J' D p) (e1 : I' 114 85 = Int32.ofInt ((m + 1 : Nat) : Int)) (sm : ∀ p, (p = h ∨ p = h + 3 ∨ p = h + 6) → ∃ a : Nat, I' 171 p = Int32.ofInt (a : Int) ∧ a ≤ m ∧ (a = 0 ↔ m = 0)) (hD : D 26 7 = D 114 94) (hP : NumP (D 114 94)) (hk : 0 ≤ FP.Core.dkey (D 114 94)) : ∃ I2 J2 I2' J2', gX4_vote σ I J D R (Int32.ofInt (h : Int)) = some (I2, J2) ∧ gX12_vote σ I' J' D R (Int32.ofInt (h : Int)) = some (I2', J2') ∧ (∀ p, p < 9 → PR I2 J2 I2' J2' D p) ∧ J2 55 h = J2' 173 h ∧ NumC (J2' 173 h) ∧ (∀ p, (p = h ∨ p = h + 3 ∨ p = h + 6) → ∃ a : Nat, I2' 171 p = Int32.ofInt (a : Int) ∧ 1 ≤ a ∧ a ≤ m + 1) ∧ (∀ a k, ¬ ((a = 43 + h ∨ a = 43 + (h + 3) ∨ a = 43 + (h + 6)) ∧ k < 5) → I2 a k = I a k) ∧ (∀ a k, ¬ (a = 54 ∧ (k = h ∨ k = h + 3 ∨ k = h + 6)) → ¬ a = 56 → ¬ (a = 55 ∧ k = h) → J2 a k = J a k) ∧ (∀ a k, ¬ ((167 ≤ a ∧ a ≤ 172) ∧ (k = h ∨ k = h + 3 ∨ k = h + 6)) → I2' a k = I' a k) ∧ (∀ a k, ¬ (a = 166 ∧ (k = h ∨ k = h + 3 ∨ k = h + 6)) → ¬ (a = 173 ∧ k = h) → J2' a k = J' a k) ∧ (isNum (J2 55 h) → J2 52 h = J2 55 h ∨ J2 52 (h + 3) = J2 55 h ∨ J2 52 (h + 6) = J2 55 h) := by
  have hs : ∀ p, (p = h ∨ p = h + 3 ∨ p = h + 6) → (I' 171 p = 0 ↔ I' 114 85 ≤ 1) := by
    intro p hp
    obtain ⟨a, a1, a2, a3⟩ := sm p hp
    rw [a1, e1, i_eql (by omega), i_lel (by omega)]
    omega
  have nP : FP.Core.val64 (D 114 94) ≠ .nan := nn_to hP
  have hN : ∀ p, p < 9 → isNum (J 52 p) → D 53 p = (J 52 p).toUInt64 := fun p hp n => by
    rw [(pr p hp).j2] at n ⊢
    exact (pr p hp).d.1 n
  obtain ⟨I2, J2, c1, c2, c3, c4, c5⟩ := vote_C (I := I) (J := J) (D := D) (o := fun p => I' 167 p) hS hh hN (by rw [hD]; exact nP) (by rw [hD]; exact hk) (fun p hp => ⟨(pr p hp).o, (pr p hp).a0⟩)
  obtain ⟨I2', J2', d1, d2, d3, d4, d5⟩ := vote_M (I := I') (J := J') (D := D) hS hh (fun p hp => (pr p hp).n) nP (fun p hp => (pr p hp).o)
  have re := fun p hp => res_eq (p := p) hh pr hs hD hp
  refine ⟨I2, J2, I2', J2', c1, d1, fun p hp => ?_, ?_, ?_, fun p hp => ?_, c4, c5, d4, d5, fun n => ?_⟩
  · by_cases q : p = h ∨ p = h + 3 ∨ p = h + 6
    · obtain ⟨⟨x0, x1, x2, x3⟩, x4, x5⟩ := c2 p q
      obtain ⟨⟨y0, y1, y2, y3⟩, y4, y5⟩ := d2 p q
      have e := (re p q).1
      rw [e] at x0 x1 x2 x3
      refine ⟨?_, ?_, ?_, ?_, ?_, ?_, ?_, ?_, ?_, ?_⟩
      · rw [x0, y0]
      · rw [x1, y1]
      · rw [x2, y2]
      · rw [x3, y3]
      · rw [x4, y4]; exact ((pr p hp).sm (hs p q)).1
      · rw [y0]; exact jd_01 (pr p hp).o
      · rw [c5 52 p (by omega) (by omega) (by omega), d5 165 p (by omega) (by omega)]; exact (pr p hp).j2
      · rw [d5 165 p (by omega) (by omega)]; exact (pr p hp).n
      · rw [x5, y5]; exact (pr p hp).j2
      · rw [d5 165 p (by omega) (by omega)]; exact (pr p hp).d
    · have i : ∀ k, I2 (43 + p) k = I (43 + p) k := fun k => c4 _ _ (by omega)
      have m : ∀ a, I2' a p = I' a p := fun a => d4 _ _ (by omega)
      have P := pr p hp
      refine ⟨?_, ?_, ?_, ?_, ?_, ?_, ?_, ?_, ?_, ?_⟩
      · rw [i, m]; exact P.a0
      · rw [i, m]; exact P.a1
      · rw [i, m]; exact P.a2
      · rw [i, m]; exact P.a3
      · rw [i, m]; exact P.a4
      · rw [m]; exact P.o
      · rw [c5 52 p (by omega) (by omega) (by omega), d5 165 p (by omega) (by omega)]; exact P.j2
      · rw [d5 165 p (by omega) (by omega)]; exact P.n
      · rw [c5 54 p (by omega) (by omega) (by omega), d5 166 p (by omega) (by omega)]; exact P.j4
      · rw [d5 165 p (by omega) (by omega)]; exact P.d
  · rw [c3, d3]; exact (re h (Or.inl rfl)).2.1
  · rw [d3]; exact (re h (Or.inl rfl)).2.2
  · obtain ⟨a, a1, a2, a3⟩ := sm p hp
    rw [(d2 p hp).2.1]
    unfold smM
    rw [e1, a1]
    by_cases q : (Int32.ofInt ((m + 1 : Nat) : Int) ≤ 1)
    · rw [if_pos q]; exact ⟨1, rfl, by omega, by omega⟩
    · rw [if_neg q]
      by_cases r : J' 165 p = J' 166 p
      · rw [if_pos r]
        refine ⟨a + 1, ?_, by omega, by omega⟩
        rw [i_addl, Int.natCast_add]; rfl
      · rw [if_neg r]; exact ⟨1, rfl, by omega, by omega⟩
  · have vm : valC3 I J h = 9221120237041090560 ∨ J 52 h = valC3 I J h ∨ J 52 (h + 3) = valC3 I J h ∨ J 52 (h + 6) = valC3 I J h := vC_mem
    rw [c3] at n
    rw [c3, c5 52 h (by omega) (by omega) (by omega), c5 52 (h + 3) (by omega) (by omega) (by omega), c5 52 (h + 6) (by omega) (by omega) (by omega)]
    rcases vm with q | q
    · rw [q] at n; exact absurd n not_num
    · exact q
