/-! ===== minute: a house's turn, both ways ===== -/
theorem agC {I I2 : Nat → Nat → Int32} (h : Ag [(27, 28), (38, 42)] I I2) : ∀ a k, a ≠ 27 → ¬ (38 ≤ a ∧ a ≤ 41) → I2 a k = I a k := by
  intro a k h1 h2
  apply h
  cases e : inW [(27, 28), (38, 42)] (key a k) with
  | false => rfl
  | true =>
    exfalso
    obtain ⟨t, ht, h3, h4⟩ := inW_iff.mp e
    rw [List.mem_cons, List.mem_singleton] at ht
    unfold key at h3 h4
    rcases ht with rfl | rfl
    · dsimp only at h3 h4
      split at h3 <;> (try split at h3) <;> simp_all <;> omega
    · dsimp only at h3 h4
      split at h3 <;> (try split at h3) <;> simp_all <;> omega
theorem agM {I I2 : Nat → Nat → Int32} (h : Ag [(160, 165), (1000083, 1000084)] I I2) : ∀ a k, ¬ (160 ≤ a ∧ a ≤ 164) → ¬ (a = 114 ∧ k = 83) → a ≠ 1000083 → I2 a k = I a k := by
  intro a k h1 h2 h0
  apply h
  cases e : inW [(160, 165), (1000083, 1000084)] (key a k) with
  | false => rfl
  | true =>
    exfalso
    obtain ⟨t, ht, h3, h4⟩ := inW_iff.mp e
    rw [List.mem_cons, List.mem_singleton] at ht
    unfold key at h3 h4
    rcases ht with rfl | rfl
    · dsimp only at h3 h4
      by_cases q1 : a = 114
      · rw [if_pos q1] at h3 h4; omega
      · rw [if_neg q1] at h3 h4
        by_cases q2 : a = 4
        · rw [if_pos q2] at h3 h4; omega
        · rw [if_neg q2] at h3 h4; omega
    · dsimp only at h3 h4
      by_cases q1 : a = 114
      · rw [if_pos q1] at h3 h4; omega
      · rw [if_neg q1] at h3 h4
        by_cases q2 : a = 4
        · rw [if_pos q2] at h3 h4; omega
        · rw [if_neg q2] at h3 h4; omega
theorem TBl.cg {I I' K K' : Nat → Nat → Int32} (h : TBl I I') (f : ∀ a k, 26 < a → a < 42 → K a k = I a k) (g : ∀ a k, (156 ≤ a ∧ a ≤ 163) ∨ (a = 114 ∧ k = 83) → K' a k = I' a k) : TBl K K' := by
  obtain ⟨r, T, n, X, Y, hr, hI, hZ, h01, hC, hM, hB, e1, e2, e3, f1, f2, f3⟩ := h
  refine ⟨r, T, n, X, Y, hr, hI, hZ, h01, ⟨fun i hi => ?_, ?_⟩, ⟨fun i hi => ?_, ?_⟩, hB, ?_, fun k hk => ?_, fun k hk => ?_, ?_, fun k hk => ?_, fun k hk => ?_⟩
  · rw [f 37 i (by omega) (by omega), f 39 i (by omega) (by omega), f 40 i (by omega) (by omega), f 38 i (by omega) (by omega), f 41 i (by omega) (by omega)]; exact hC.1 i hi
  · rw [f 27 8 (by omega) (by omega)]; exact hC.2
  · rw [g 159 i (by omega), g 160 i (by omega), g 161 i (by omega), g 162 i (by omega), g 163 i (by omega)]; exact hM.1 i hi
  · rw [g 114 83 (by omega)]; exact hM.2
  · rw [g 156 0 (by omega)]; exact e1
  · rw [g 157 k (by omega)]; exact e2 k hk
  · rw [g 158 k (by omega)]; exact e3 k hk
  · rw [f 36 0 (by omega) (by omega)]; exact f1
  · rw [f 29 k (by omega) (by omega)]; exact f2 k hk
  · rw [f 33 k (by omega) (by omega)]; exact f3 k hk
theorem MK.cg {I I' K K' : Nat → Nat → Int32} {t : Nat} (ht : t < 3) (h : MK I I' t) (f : ∀ a k, 63 ≤ a → a ≤ 70 → K a k = I a k) (g : ∀ a k, (181 ≤ a ∧ a ≤ 183) → K' a k = I' a k) : MK K K' t := by
  obtain ⟨n, n1, n2, n3, n4⟩ := h
  refine ⟨n, n1, by rw [g 181 t (by omega)]; exact n2, by rw [f 70 t (by omega) (by omega)]; exact n3, fun q => ?_⟩
  obtain ⟨M, W, m1, m2, m3, m4, m5⟩ := n4 q
  exact ⟨M, W, m1, fun k hk => by rw [g 182 _ (by omega)]; exact m2 k hk, fun k hk => by rw [g 183 _ (by omega)]; exact m3 k hk, fun k hk => by rw [f (63 + t) k (by omega) (by omega)]; exact m4 k hk, fun k hk => by rw [f (67 + t) k (by omega) (by omega)]; exact m5 k hk⟩
theorem PR.cg {I K I' K' : Nat → Nat → Int32} {J L J' L' : Nat → Nat → Int64} {D : Nat → Nat → UInt64} {p : Nat} (h : PR I J I' J' D p) (f : ∀ k, K (43 + p) k = I (43 + p) k) (f' : ∀ a, 167 ≤ a → a ≤ 171 → K' a p = I' a p) (g : ∀ a, 52 ≤ a → a ≤ 54 → L a p = J a p) (g' : ∀ a, 165 ≤ a → a ≤ 166 → L' a p = J' a p) : PR K L K' L' D p := by
  refine ⟨?_, ?_, ?_, ?_, ?_, ?_, ?_, ?_, ?_, ?_⟩
  · rw [f, f' 167 (by omega) (by omega)]; exact h.a0
  · rw [f, f' 168 (by omega) (by omega)]; exact h.a1
  · rw [f, f' 169 (by omega) (by omega)]; exact h.a2
  · rw [f, f' 170 (by omega) (by omega)]; exact h.a3
  · rw [f, f' 171 (by omega) (by omega)]; exact h.a4
  · rw [f' 167 (by omega) (by omega)]; exact h.o
  · rw [g 52 (by omega) (by omega), g' 165 (by omega) (by omega)]; exact h.j2
  · rw [g' 165 (by omega) (by omega)]; exact h.n
  · rw [g 54 (by omega) (by omega), g' 166 (by omega) (by omega)]; exact h.j4
  · rw [g' 165 (by omega) (by omega)]; exact h.d
theorem AR.cg {J L J' L' : Nat → Nat → Int64} {t : Nat} (h : AR J J' t) (f : ∀ k, k < 3 ∨ 6 ≤ k → L (58 + t) k = J (58 + t) k) (g : ∀ a k, (a = 175 ∨ a = 176) ∧ k = t ∨ a = 180 ∧ 6 * t ≤ k ∧ k ≤ 6 * t + 5 → L' a k = J' a k) : AR L L' t := by
  obtain ⟨r0, r1, r2, r6, r7, r8, r9, r10⟩ := h
  refine ⟨?_, ?_, ?_, ?_, ?_, ?_, ?_, ?_⟩
  · rw [f 0 (by omega), g 175 t (by omega)]; exact r0
  · rw [f 1 (by omega), g 176 t (by omega)]; exact r1
  · rw [f 2 (by omega), g 180 _ (by omega)]; exact r2
  · rw [f 6 (by omega), g 180 _ (by omega)]; exact r6
  · rw [f 7 (by omega), g 180 _ (by omega)]; exact r7
  · rw [f 8 (by omega), g 180 _ (by omega)]; exact r8
  · rw [f 9 (by omega), g 180 _ (by omega)]; exact r9
  · rw [f 10 (by omega), g 180 _ (by omega)]; exact r10
theorem AV.cg {J L : Nat → Nat → Int64} {I' K' : Nat → Nat → Int32} {t : Nat} {a b c : Int} (h : AV J I' t a b c) (f : ∀ k, L (58 + t) k = J (58 + t) k) (g : ∀ x, 177 ≤ x → x ≤ 179 → K' x t = I' x t) : AV L K' t a b c := by
  obtain ⟨j3, j4, j5, i7, i8, i9, hx⟩ := h
  exact ⟨by rw [f]; exact j3, by rw [f]; exact j4, by rw [f]; exact j5, by rw [g 177 (by omega) (by omega)]; exact i7, by rw [g 178 (by omega) (by omega)]; exact i8, by rw [g 179 (by omega) (by omega)]; exact i9, hx⟩
/-- within a minute, h houses done -/
def LK (D : Nat → Nat → UInt64) (m h : Nat) (I : Nat → Nat → Int32) (J : Nat → Nat → Int64) (I' : Nat → Nat → Int32) (J' : Nat → Nat → Int64) : Prop := (∀ p, p < 9 → PR I J I' J' D p) ∧ (∀ k, k < 5 → I 61 k = I' 174 k) ∧ (∀ k, k < 5 → Rn (I' 174 k) (-40000) 60000) ∧ (∀ t, t < 3 → AR J J' t) ∧ (∀ t, t < 3 → ∃ a b c, AV J I' t a b c) ∧ (∀ t, t < 3 → J 55 t = J' 173 t ∧ NumC (J' 173 t)) ∧ (∀ t, t < 3 → MK I I' t) ∧ TBl I I' ∧ I 26 13 = Int32.ofInt ((m + 1 : Nat) : Int) ∧ I' 114 85 = Int32.ofInt ((m + 1 : Nat) : Int) ∧ (∀ p, p < 9 → ∃ a : Nat, I' 171 p = Int32.ofInt (a : Int) ∧ (if p % 3 < h then 1 ≤ a ∧ a ≤ m + 1 else a ≤ m ∧ (a = 0 ↔ m = 0)))
/-- what a minute leaves -/
def LF (I : Nat → Nat → Int32) (J : Nat → Nat → Int64) (I' : Nat → Nat → Int32) (J' : Nat → Nat → Int64) (K : Nat → Nat → Int32) (L : Nat → Nat → Int64) (K' : Nat → Nat → Int32) (L' : Nat → Nat → Int64) : Prop := (∀ a k, a ≠ 27 → ¬ (38 ≤ a ∧ a ≤ 41) → ¬ (43 ≤ a ∧ a ≤ 51) → ¬ (a = 26 ∧ k = 13) → K a k = I a k) ∧ (∀ a k, ¬ (54 ≤ a ∧ a ≤ 56) → ¬ (58 ≤ a ∧ a ≤ 60) → L a k = J a k) ∧ (∀ a k, ¬ (160 ≤ a ∧ a ≤ 164) → ¬ (a = 114 ∧ k = 83) → ¬ (a = 114 ∧ k = 85) → ¬ (167 ≤ a ∧ a ≤ 172) → ¬ (177 ≤ a ∧ a ≤ 179) → a ≠ 1000083 → K' a k = I' a k) ∧ (∀ a k, a ≠ 166 → a ≠ 173 → ¬ (175 ≤ a ∧ a ≤ 176) → a ≠ 180 → L' a k = J' a k)
theorem LF.rf {I : Nat → Nat → Int32} {J : Nat → Nat → Int64} {I' : Nat → Nat → Int32} {J' : Nat → Nat → Int64} : LF I J I' J' I J I' J' := ⟨fun _ _ _ _ _ _ => rfl, fun _ _ _ _ => rfl, fun _ _ _ _ _ _ _ _ => rfl, fun _ _ _ _ _ _ => rfl⟩
theorem LF.tr {I : Nat → Nat → Int32} {J : Nat → Nat → Int64} {I' : Nat → Nat → Int32} {J' : Nat → Nat → Int64} {K : Nat → Nat → Int32} {L : Nat → Nat → Int64} {K' : Nat → Nat → Int32} {L' : Nat → Nat → Int64} {M : Nat → Nat → Int32} {N : Nat → Nat → Int64} {M' : Nat → Nat → Int32} {N' : Nat → Nat → Int64} (x : LF I J I' J' K L K' L') (y : LF K L K' L' M N M' N') : LF I J I' J' M N M' N' := ⟨fun a k q1 q2 q3 q4 => (y.1 a k q1 q2 q3 q4).trans (x.1 a k q1 q2 q3 q4), fun a k q1 q2 => (y.2.1 a k q1 q2).trans (x.2.1 a k q1 q2), fun a k q1 q2 q3 q4 q5 q6 => (y.2.2.1 a k q1 q2 q3 q4 q5 q6).trans (x.2.2.1 a k q1 q2 q3 q4 q5 q6), fun a k q1 q2 q3 q4 => (y.2.2.2 a k q1 q2 q3 q4).trans (x.2.2.2 a k q1 q2 q3 q4)⟩
