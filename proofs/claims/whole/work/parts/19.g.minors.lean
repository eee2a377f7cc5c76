/-! ===== work: minors ===== -/
def m2 (A B : Nat → Int) (a b : Nat) : Int := A a * B b - A b * B a
def m3 (A B C : Nat → Int) (a b c : Nat) : Int := A a * m2 B C b c - A b * m2 B C a c + A c * m2 B C a b
theorem s12a (A B : Nat → Int) (c0 c1 c : Nat) : A c * m2 A B c0 c1 - A c1 * m2 A B c0 c = A c0 * m2 A B c c1 := by
  unfold m2
  grind
theorem s12b (A B C : Nat → Int) (c0 c1 c : Nat) : m2 A C c0 c * m2 A B c0 c1 - m2 A C c0 c1 * m2 A B c0 c = A c0 * m3 A B C c0 c1 c := by
  unfold m3 m2
  grind
theorem s23a (A B C : Nat → Int) (c0 c1 c2 c : Nat) : m2 A B c c1 * m3 A B C c0 c1 c2 - m2 A B c2 c1 * m3 A B C c0 c1 c = m2 A B c0 c1 * m3 A B C c c1 c2 := by
  unfold m3 m2
  grind
theorem s23b (A B C : Nat → Int) (c0 c1 c2 c : Nat) : m2 A B c0 c * m3 A B C c0 c1 c2 - m2 A B c0 c2 * m3 A B C c0 c1 c = m2 A B c0 c1 * m3 A B C c0 c c2 := by
  unfold m3 m2
  grind
/-- a row of the script's: salts up to 99, the rest up to 999 -/
def RwB (A : Nat → Int) : Prop := (∀ j, j < 4 → (A j).natAbs ≤ 99) ∧ ∀ j, j < 8 → (A j).natAbs ≤ 999
theorem ab_sub {x y : Int} {X Y : Nat} (h : x.natAbs ≤ X) (h' : y.natAbs ≤ Y) : (x - y).natAbs ≤ X + Y := by omega
theorem m2_b {A B : Nat → Int} {a b X Y : Nat} (h1 : (A a).natAbs ≤ X) (h2 : (B a).natAbs ≤ X) (h3 : (A b).natAbs ≤ Y) (h4 : (B b).natAbs ≤ Y) : (m2 A B a b).natAbs ≤ X * Y + Y * X := by
  unfold m2
  exact ab_sub (mb h1 h4) (mb h3 h2)
theorem m3_b {A B C : Nat → Int} {a b c X Y Z : Nat} (h1 : (A a).natAbs ≤ X ∧ (B a).natAbs ≤ X ∧ (C a).natAbs ≤ X) (h2 : (A b).natAbs ≤ Y ∧ (B b).natAbs ≤ Y ∧ (C b).natAbs ≤ Y) (h3 : (A c).natAbs ≤ Z ∧ (B c).natAbs ≤ Z ∧ (C c).natAbs ≤ Z) : (m3 A B C a b c).natAbs ≤ X * (Y * Z + Z * Y) + Y * (X * Z + Z * X) + Z * (X * Y + Y * X) := by
  have k1 := mb h1.1 (m2_b h2.2.1 h2.2.2 h3.2.1 h3.2.2)
  have k2 := mb h2.1 (m2_b h1.2.1 h1.2.2 h3.2.1 h3.2.2)
  have k3 := mb h3.1 (m2_b h1.2.1 h1.2.2 h2.2.1 h2.2.2)
  unfold m3
  omega
/-- the pivot's row divided -/
theorem Fr.dv {u l o e M Mo d : Int} (h : Fr u l M d) (h' : Fr o e Mo d) (o0 : o ≠ 0) : Fr (rU (u * e) (l * o)) (rL (u * e) (l * o)) M Mo := by
  obtain ⟨x1, x2, x3, x4⟩ := h
  obtain ⟨y1, y2, y3, y4⟩ := h'
  have mo : Mo ≠ 0 := fun z => by
    rw [z, Int.zero_mul] at y1
    exact ne_mul o0 x4 y1
  refine (rdF (X := u * e) (ne_mul (by omega) o0)).to ?_ mo
  refine Int.eq_of_mul_eq_mul_right x4 ?_
  calc u * e * Mo * d = (u * d) * (Mo * e) := by ac_rfl
    _ = (M * l) * (o * d) := by rw [x1, ← y1]
    _ = M * (l * o) * d := by ac_rfl
/-- a row taken -/
theorem Fr.tk {u l o e v w M Mr Mp Mo N d : Int} (h : Fr u l M d) (h1 : Fr o e Mr d) (h2 : Fr v w Mp Mo) (s : M * Mo - Mr * Mp = d * N) : Fr (rU (u * (w * e) - v * o * l) (l * (w * e))) (rL (u * (w * e) - v * o * l) (l * (w * e))) N Mo := by
  obtain ⟨x1, x2, x3, x4⟩ := h
  obtain ⟨y1, y2, y3, y4⟩ := h1
  obtain ⟨z1, z2, z3, z4⟩ := h2
  refine (rdF (X := u * (w * e) - v * o * l) (ne_mul (by omega) (ne_mul (by omega) (by omega)))).to ?_ z4
  refine Int.eq_of_mul_eq_mul_right x4 ?_
  have k1 : u * (w * e) * (Mo * d) = (M * Mo) * (l * (w * e)) := by
    calc u * (w * e) * (Mo * d) = (u * d) * (Mo * (w * e)) := by ac_rfl
      _ = (M * l) * (Mo * (w * e)) := by rw [x1]
      _ = (M * Mo) * (l * (w * e)) := by ac_rfl
  have k2 : v * o * l * (Mo * d) = (Mr * Mp) * (l * (w * e)) := by
    calc v * o * l * (Mo * d) = (v * Mo) * (o * d) * l := by ac_rfl
      _ = (Mp * w) * (Mr * e) * l := by rw [z1, y1]
      _ = (Mr * Mp) * (l * (w * e)) := by ac_rfl
  calc (u * (w * e) - v * o * l) * Mo * d = u * (w * e) * (Mo * d) - v * o * l * (Mo * d) := by rw [Int.mul_assoc, Int.sub_mul]
    _ = (M * Mo) * (l * (w * e)) - (Mr * Mp) * (l * (w * e)) := by rw [k1, k2]
    _ = (M * Mo - Mr * Mp) * (l * (w * e)) := by rw [Int.sub_mul]
    _ = (d * N) * (l * (w * e)) := by rw [s]
    _ = N * (l * (w * e)) * d := by ac_rfl
