theorem rowset {α : Type} {A : Nat → Nat → α} {base m w n p0 s0 : Nat} {v : α} (h : ∀ p s, p < n → s < w → A (base + p) s = A m (w * p + s)) (hp0 : p0 < n) (hs : s0 < w) (hm : m < base ∨ base + n ≤ m) : ∀ p s, p < n → s < w → u2 (u2 A (base + p0) s0 v) m (w * p0 + s0) v (base + p) s = u2 (u2 A (base + p0) s0 v) m (w * p0 + s0) v m (w * p + s) := by
  intro p s hp hs2
  by_cases e : p = p0 ∧ s = s0
  · obtain ⟨rfl, rfl⟩ := e
    rw [u2_self, u2_ne (by omega), u2_self]
  · have e1 : w * p + s ≠ w * p0 + s0 := by
      intro q
      apply e
      have h1 : (w * p + s) / w = p := by rw [Nat.mul_add_div (by omega), Nat.div_eq_of_lt hs2, Nat.add_zero]
      have h2 : (w * p0 + s0) / w = p0 := by rw [Nat.mul_add_div (by omega), Nat.div_eq_of_lt hs, Nat.add_zero]
      have h3 : p = p0 := by rw [← h1, ← h2, q]
      subst h3
      exact ⟨rfl, by omega⟩
    rw [u2_ne (by omega), u2_ne (by omega), u2_ne (by intro _; exact e1), u2_ne (by omega)]
    exact h p s hp hs2
theorem flatset {α : Type} {A : Nat → Nat → α} {a b n k : Nat} {v : α} (h : ∀ j, j < n → A a j = A b j) (hab : a ≠ b) : ∀ j, j < n → u2 (u2 A a k v) b k v a j = u2 (u2 A a k v) b k v b j := by
  intro j hj
  by_cases e : j = k
  · subst e
    rw [u2_self, u2_ne (fun q => absurd q hab), u2_self]
  · rw [u2_ne (fun _ => e), u2_ne (fun _ => e), u2_ne (fun _ => e), u2_ne (fun q => absurd q.symm hab)]
    exact h j hj
/-- an int within bounds -/
def Rn (x : Int32) (lo hi : Int) : Prop := ∃ i : Int, lo ≤ i ∧ i ≤ hi ∧ x = Int32.ofInt i
def RnJ (x : Int64) (lo hi : Int) : Prop := ∃ i : Int, lo ≤ i ∧ i ≤ hi ∧ x = Int64.ofInt i
/-- cells that a change leaves -/
def Kp {α : Type} (C : List (Nat × Nat)) (f g : Nat → Nat → α) : Prop := ∀ a k, inW C (key a k) = true → g a k = f a k
def disW (C W : List (Nat × Nat)) : Bool := C.all fun c => W.all fun w => Nat.ble c.2 w.1 || Nat.ble w.2 c.1
theorem disW_no {C W : List (Nat × Nat)} {a : Nat} (d : disW C W = true) (ha : inW C a = true) : inW W a = false := by
  cases e : inW W a with
  | false => rfl
  | true =>
    exfalso
    obtain ⟨c, hc, h1, h2⟩ := inW_iff.mp ha
    obtain ⟨w, hw, h3, h4⟩ := inW_iff.mp e
    have h5 := List.all_eq_true.mp (List.all_eq_true.mp d c hc) w hw
    rw [Bool.or_eq_true] at h5
    rcases h5 with h5 | h5
    · have := Nat.le_of_ble_eq_true h5; omega
    · have := Nat.le_of_ble_eq_true h5; omega
theorem Ag.kp {α : Type} {C W : List (Nat × Nat)} {f g : Nat → Nat → α} (h : Ag W f g) (d : disW C W = true) : Kp C f g := fun a k ha => h a k (disW_no d ha)
theorem Kp.rf {α : Type} {C : List (Nat × Nat)} {f : Nat → Nat → α} : Kp C f f := fun _ _ _ => rfl
theorem Kp.tr {α : Type} {C : List (Nat × Nat)} {f g h : Nat → Nat → α} (p : Kp C f g) (q : Kp C g h) : Kp C f h := fun a k ha => (q a k ha).trans (p a k ha)
theorem d10 : ((1 : Int32) = 0) = False := by decide
theorem d01 : ((0 : Int32) = 1) = False := by decide
theorem d00 : ((0 : Int32) = 0) = True := by decide
theorem d11 : ((1 : Int32) = 1) = True := by decide
theorem g_tn {i : Int} {n : Nat} (h : i < (n : Int) ∧ 0 < n) : (n ≤ i.toNat) = False := by
  apply eq_false; omega
theorem u2n {α : Type} {f : Nat → Nat → α} {a k b j : Nat} {v : α} (h : ¬ (b = a ∧ j = k)) : u2 f a k v b j = f b j := if_neg h
theorem u2s {α : Type} {f : Nat → Nat → α} {a k b j : Nat} {v : α} (h : b = a ∧ j = k) : u2 f a k v b j = v := if_pos h
theorem u2_if {α : Type} {f : Nat → Nat → α} {a k b j : Nat} {v : α} : u2 f a k v b j = if b = a ∧ j = k then v else f b j := rfl
theorem nat32 (n : Nat) : Int32.ofNat n = Int32.ofInt (n : Int) := (Int32.ofInt_eq_ofNat (n := n)).symm
theorem onl_n {α : Type} {A : α} {B : Nat → α} : onl none A B = A := rfl
theorem onl_s {α : Type} {a : Nat} {A : α} {B : Nat → α} : onl (some a) A B = B a := rfl
def mfail (x : Int32) : Int32 := (-10 : Int32) - x
def fI (I : Nat → Nat → Int32) (x : Int32) : Nat → Nat → Int32 := u2 (u2 I 4 13 (I 4 13 + 1)) 4 14 x
def noI (I : Nat → Nat → Int32) (x : Int32) : Nat → Nat → Int32 := u2 (u2 I 114 1 (I 114 1 + 1)) 114 2 x
theorem fail_r (I : Nat → Nat → Int32) (x : Int32) : gX11_fail I x = some (fI I x, mfail x) := Eq.symm (Eq.symm rfl)
theorem no_r (I : Nat → Nat → Int32) (x : Int32) : gX12_no I x = some (noI I x, mfail x) := Eq.symm (Eq.symm rfl)
theorem nob_r (I : Nat → Nat → Int32) (x : Int32) : gX12_noBits I x = some (noI I x, (0 : Int64)) := Eq.symm (Eq.symm rfl)
theorem fI_o {I : Nat → Nat → Int32} {x : Int32} {a k : Nat} (h : a ≠ 4) : fI I x a k = I a k := by unfold fI; rw [u2n (by omega), u2n (by omega)]
