/-! ===== work: a column's step ===== -/
def MatC (J : Nat → Nat → Int64) (U L : Nat → Nat → Int) : Prop := ∀ r c, r < 3 → c < 8 → J (80 + r) c = Int64.ofInt (U r c) ∧ J (84 + r) c = Int64.ofInt (L r c)
def MatM (J : Nat → Nat → Int64) (U L : Nat → Nat → Int) : Prop := ∀ r c, r < 3 → c < 8 → J 189 (8 * r + c) = Int64.ofInt (U r c) ∧ J 190 (8 * r + c) = Int64.ofInt (L r c)
def MtR (U L N : Nat → Nat → Int) (d : Int) : Prop := ∀ r c, r < 3 → c < 8 → Fr (U r c) (L r c) (N r c) d
/-- bounds at a step: the pivot's row p, its column q -/
def StB (N : Nat → Nat → Int) (d : Int) (p q : Nat) : Prop := (∀ r c, r < 3 → c < 8 → r ≠ p → (N r c).natAbs ≤ 200000) ∧ (∀ r, r < 3 → r ≠ p → (N r q).natAbs ≤ 20000) ∧ d.natAbs ≤ 20000 ∧ (∀ c, c < 8 → (N p c).natAbs ≤ 60000000) ∧ (N p q).natAbs ≤ 6000000
def dvU (U L : Nat → Nat → Int) (p q c : Nat) : Int := rU (U p c * L p q) (L p c * U p q)
def dvL (U L : Nat → Nat → Int) (p q c : Nat) : Int := rL (U p c * L p q) (L p c * U p q)
def tkU (U L : Nat → Nat → Int) (p q r c : Nat) : Int := rU (U r c * (dvL U L p q c * L r q) - dvU U L p q c * U r q * L r c) (L r c * (dvL U L p q c * L r q))
def tkL (U L : Nat → Nat → Int) (p q r c : Nat) : Int := rL (U r c * (dvL U L p q c * L r q) - dvU U L p q c * U r q * L r c) (L r c * (dvL U L p q c * L r q))
/-- the rows below x are taken -/
def mxU (U L : Nat → Nat → Int) (p q x r c : Nat) : Int := if r = p then dvU U L p q c else if r < x then tkU U L p q r c else U r c
def mxL (U L : Nat → Nat → Int) (p q x r c : Nat) : Int := if r = p then dvL U L p q c else if r < x then tkL U L p q r c else L r c
theorem mx_p {U L : Nat → Nat → Int} {p q x c : Nat} : mxU U L p q x p c = dvU U L p q c ∧ mxL U L p q x p c = dvL U L p q c := by
  unfold mxU mxL
  exact ⟨if_pos rfl, if_pos rfl⟩
theorem mx_l {U L : Nat → Nat → Int} {p q x r c : Nat} (h : r ≠ p) (h2 : r < x) : mxU U L p q x r c = tkU U L p q r c ∧ mxL U L p q x r c = tkL U L p q r c := by
  unfold mxU mxL
  rw [if_neg h, if_pos h2, if_neg h, if_pos h2]
  exact ⟨rfl, rfl⟩
theorem mx_g {U L : Nat → Nat → Int} {p q x r c : Nat} (h : r ≠ p) (h2 : ¬ r < x) : mxU U L p q x r c = U r c ∧ mxL U L p q x r c = L r c := by
  unfold mxU mxL
  rw [if_neg h, if_neg h2, if_neg h, if_neg h2]
  exact ⟨rfl, rfl⟩
theorem mx_s {U L : Nat → Nat → Int} {p q x r c : Nat} (h : r ≠ x ∨ x = p) : mxU U L p q (x + 1) r c = mxU U L p q x r c ∧ mxL U L p q (x + 1) r c = mxL U L p q x r c := by
  by_cases e : r = p
  · subst e
    rw [mx_p.1, mx_p.1, mx_p.2, mx_p.2]
    exact ⟨rfl, rfl⟩
  · by_cases e2 : r < x
    · rw [(mx_l e e2).1, (mx_l e e2).2, (mx_l e (by omega)).1, (mx_l e (by omega)).2]
      exact ⟨rfl, rfl⟩
    · rw [(mx_g e e2).1, (mx_g e e2).2, (mx_g e (by omega)).1, (mx_g e (by omega)).2]
      exact ⟨rfl, rfl⟩
theorem fr_z {u l M d : Int} (h : Fr u l M d) : u = 0 ↔ M = 0 := by
  obtain ⟨h1, h2, h3, h4⟩ := h
  constructor
  · intro e
    rw [e, Int.zero_mul] at h1
    rcases Int.mul_eq_zero.mp h1.symm with e | e
    · exact e
    · omega
  · intro e
    rw [e, Int.zero_mul] at h1
    rcases Int.mul_eq_zero.mp h1 with e | e
    · exact e
    · exact absurd e h4
theorem dv_fr {U L N : Nat → Nat → Int} {d : Int} {p q c : Nat} (h : MtR U L N d) (hp : p < 3) (hq : q < 8) (hc : c < 8) (n0 : N p q ≠ 0) : Fr (dvU U L p q c) (dvL U L p q c) (N p c) (N p q) := (h p c hp hc).dv (h p q hp hq) (fun e => n0 ((fr_z (h p q hp hq)).mp e))
theorem tk_fr {U L N : Nat → Nat → Int} {d M : Int} {p q r c : Nat} (h : MtR U L N d) (hp : p < 3) (hq : q < 8) (hr : r < 3) (hc : c < 8) (n0 : N p q ≠ 0) (s : N r c * N p q - N r q * N p c = d * M) : Fr (tkU U L p q r c) (tkL U L p q r c) M (N p q) := (h r c hr hc).tk (h r q hr hq) (dv_fr h hp hq hc n0) s
theorem mx_fr {U L N N' : Nat → Nat → Int} {d : Int} {p q : Nat} (h : MtR U L N d) (hp : p < 3) (hq : q < 8) (n0 : N p q ≠ 0) (s : ∀ r c, r < 3 → c < 8 → r ≠ p → N r c * N p q - N r q * N p c = d * N' r c) (s' : ∀ c, c < 8 → N' p c = N p c) : MtR (mxU U L p q 3) (mxL U L p q 3) N' (N p q) := by
  intro r c hr hc
  by_cases e : r = p
  · subst e
    rw [mx_p.1, mx_p.2, s' c hc]
    exact dv_fr h hr hq hc n0
  · rw [(mx_l e hr).1, (mx_l e hr).2]
    exact tk_fr h hp hq hr hc n0 (s r c hr hc e)
theorem st_tk {U L N : Nat → Nat → Int} {d : Int} {p q r c : Nat} (h : MtR U L N d) (b : StB N d p q) (hp : p < 3) (hq : q < 8) (hr : r < 3) (hc : c < 8) (hrp : r ≠ p) (n0 : N p q ≠ 0) : Tk (U r c) (L r c) (U r q) (L r q) (dvU U L p q c) (dvL U L p q c) := by
  have f1 := h r c hr hc
  have f2 := h r q hr hq
  have f3 := dv_fr h hp hq hc n0
  have x1 := f1.bu
  have x2 := f1.bl
  have x3 := f2.bu
  have x4 := f2.bl
  have x5 := f3.bu
  have x6 := f3.bl
  have p1 := f1.2.1
  have p2 := f2.2.1
  have p3 := f3.2.1
  have y1 := b.1 r c hr hc hrp
  have y2 := b.2.1 r hr hrp
  have y3 := b.2.2.1
  have y4 := b.2.2.2.1 c hc
  have y5 := b.2.2.2.2
  unfold Tk
  exact ⟨by omega, ⟨p1, by omega⟩, by omega, ⟨p2, by omega⟩, by omega, ⟨p3, by omega⟩⟩
/-- a row whose entry is 0 stays -/
theorem tk_0 {U L N : Nat → Nat → Int} {d : Int} {p q r c : Nat} (h : MtR U L N d) (hp : p < 3) (hq : q < 8) (hr : r < 3) (hc : c < 8) (n0 : N p q ≠ 0) (z : U r q = 0) : tkU U L p q r c = U r c ∧ tkL U L p q r c = L r c := by
  have f1 := h r c hr hc
  have f2 := h r q hr hq
  have f3 := dv_fr h hp hq hc n0
  have p1 := f1.2.1
  have p2 := f2.2.1
  have p3 := f3.2.1
  unfold tkU tkL
  rw [z, Int.mul_zero, Int.zero_mul, Int.sub_zero]
  have y0 : L r c * (dvL U L p q c * L r q) ≠ 0 := ne_mul (by omega) (ne_mul (by omega) (by omega))
  exact Fr.uq (rdF y0) ⟨by ac_rfl, p1, f1.2.2.1, y0⟩
