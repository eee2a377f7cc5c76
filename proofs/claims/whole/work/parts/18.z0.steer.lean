/-! ===== minute: steering, the small things ===== -/
theorem idv {p w : Int} (hp : -1000000000 ≤ p ∧ p < 1000000000) (hw : 0 < w ∧ w < 1000000000) : Int32.ofInt p / Int32.ofInt w = Int32.ofInt (p.tdiv w) ∧ -1000000000 ≤ p.tdiv w ∧ p.tdiv w ≤ 1000000000 := by
  have a := Int.natAbs_tdiv_le_natAbs p w
  have b : -1000000000 ≤ p.tdiv w ∧ p.tdiv w ≤ 1000000000 := by omega
  have h : Int32.ofInt p ≠ Int32.minValue := fun e => by
    have := congrArg Int32.toInt e
    rw [ti (by omega) (by omega), Int32.toInt_minValue] at this
    omega
  refine ⟨?_, b⟩
  rw [← Int32.toInt_inj, Int32.toInt_div_of_ne_left _ _ h, ti (i := p) (by omega) (by omega), ti (i := w) (by omega) (by omega), ti (by omega) (by omega)]
theorem l2i (v : Int) : Int64.toInt32 (Int64.ofInt v) = Int32.ofInt v := Int64.toInt32_ofInt
/-- within n of 0 -/
def cla (x n : Int) : Int := if x < -n then -n else if n < x then n else x
theorem cla_b {x n : Int} (h : 0 ≤ n) : -n ≤ cla x n ∧ cla x n ≤ n := by unfold cla; split <;> (try split) <;> omega
theorem mnJ {x y : Int} (hx : -9223372036854775808 ≤ x ∧ x < 9223372036854775808) (hy : -9223372036854775808 ≤ y ∧ y < 9223372036854775808) : fXM_minJ (Int64.ofInt x) (Int64.ofInt y) = Int64.ofInt (min x y) := by
  unfold fXM_minJ
  by_cases c : y < x
  · rw [if_pos (by rw [j_lt (by omega) (by omega)]; exact c)]; congr 1; omega
  · rw [if_neg (by rw [j_lt (by omega) (by omega)]; exact c)]; congr 1; omega
theorem mxJ {x y : Int} (hx : -9223372036854775808 ≤ x ∧ x < 9223372036854775808) (hy : -9223372036854775808 ≤ y ∧ y < 9223372036854775808) : fXM_maxJ (Int64.ofInt x) (Int64.ofInt y) = Int64.ofInt (max x y) := by
  unfold fXM_maxJ
  by_cases c : x < y
  · rw [if_pos (by rw [j_lt (by omega) (by omega)]; exact c)]; congr 1; omega
  · rw [if_neg (by rw [j_lt (by omega) (by omega)]; exact c)]; congr 1; omega
theorem bdC {x n : Int} {lo hi : Int64} (hx : -9223372036854775808 ≤ x ∧ x < 9223372036854775808) (hn : 0 ≤ n ∧ n < 1000000000000) (el : lo = Int64.ofInt (-n)) (eh : hi = Int64.ofInt n) : fX4_bounded (Int64.ofInt x) lo hi = Int64.ofInt (cla x n) := by
  subst el eh
  unfold fX4_bounded
  rw [mnJ (by omega) (by omega), mxJ (by omega) (by omega)]
  congr 1
  unfold cla
  split <;> (try split) <;> omega
theorem bdM {x n : Int} {hi : Int64} (hx : -9223372036854775808 ≤ x ∧ x < 9223372036854775808) (hn : 0 ≤ n ∧ n < 1000000000000) (eh : hi = Int64.ofInt n) : fX12_within (Int64.ofInt x) hi = Int64.ofInt (cla x n) := by
  subst eh
  unfold fX12_within cla
  rw [j_neg]
  by_cases c : x < -n
  · rw [if_neg (by rw [j_le (by omega) (by omega)]; omega), if_pos c]
  · rw [if_pos (by rw [j_le (by omega) (by omega)]; omega), if_neg c]
    by_cases d : n < x
    · rw [if_neg (by rw [j_le (by omega) (by omega)]; omega), if_pos d]
    · rw [if_pos (by rw [j_le (by omega) (by omega)]; omega), if_neg d]
theorem abJ {x : Int} (hx : -4611686018427387904 ≤ x ∧ x < 4611686018427387904) : fXM_absJ (Int64.ofInt x) = Int64.ofInt (if 0 ≤ x then x else -x) := by
  unfold fXM_absJ
  by_cases c : 0 ≤ x
  · rw [if_pos (by rw [j_ler (by omega)]; exact c), if_pos c]
  · rw [if_neg (by rw [j_ler (by omega)]; exact c), if_neg c, j_neg]
/-- ten nearer to t -/
def tw (a t : Int) : Int := a + cla (t - a) 10
theorem tw_b {a t : Int} (h : 0 ≤ a ∧ a ≤ 100) (h' : 0 ≤ t ∧ t ≤ 100) : 0 ≤ tw a t ∧ tw a t ≤ 100 := by
  unfold tw cla
  split <;> (try split) <;> omega
theorem twC {a t : Int} (h : 0 ≤ a ∧ a ≤ 100) (h' : 0 ≤ t ∧ t ≤ 100) : fX4_towards (Int64.ofInt a) (Int64.ofInt t) = Int64.ofInt (tw a t) := by
  unfold fX4_towards tw
  rw [j_sub, bdC (n := 10) (lo := -10) (hi := 10) (by omega) (by omega) rfl rfl, j_add]
theorem twM {a t : Int} (h : 0 ≤ a ∧ a ≤ 100) (h' : 0 ≤ t ∧ t ≤ 100) : fX12_toward (Int32.ofInt a) (Int32.ofInt t) = Int32.ofInt (tw a t) := by
  unfold fX12_toward tw cla
  rw [i_subl, i_addl]
  by_cases c : t ≤ a
  · rw [if_pos (by rw [i_le (by omega) (by omega)]; exact c)]
    by_cases d : a - 10 ≤ t
    · rw [if_pos (by rw [i_le (by omega) (by omega)]; exact d), if_neg (by omega), if_neg (by omega)]
      congr 1; omega
    · rw [if_neg (by rw [i_le (by omega) (by omega)]; exact d), if_pos (by omega)]
      rfl
  · rw [if_neg (by rw [i_le (by omega) (by omega)]; exact c)]
    by_cases d : t ≤ a + 10
    · rw [if_pos (by rw [i_le (by omega) (by omega)]; exact d), if_neg (by omega), if_neg (by omega)]
      congr 1; omega
    · rw [if_neg (by rw [i_le (by omega) (by omega)]; exact d), if_neg (by omega), if_pos (by omega)]
/-- vent, pipe and store of a house, both ways -/
def AV (J : Nat → Nat → Int64) (I' : Nat → Nat → Int32) (h : Nat) (a b c : Int) : Prop := J (58 + h) 3 = Int64.ofInt a ∧ J (58 + h) 4 = Int64.ofInt b ∧ J (58 + h) 5 = Int64.ofInt c ∧ I' 177 h = Int32.ofInt a ∧ I' 178 h = Int32.ofInt b ∧ I' 179 h = Int32.ofInt c ∧ (0 ≤ a ∧ a ≤ 100) ∧ (0 ≤ b ∧ b ≤ 100) ∧ (-4000 ≤ c ∧ c ≤ 4000)
/-- the cells that steering may write -/
def FrJ (h : Nat) (J J2 : Nat → Nat → Int64) : Prop := ∀ a k, ¬ (a = 58 + h ∧ 3 ≤ k ∧ k ≤ 5) → J2 a k = J a k
def FrI (h : Nat) (I I2 : Nat → Nat → Int32) : Prop := ∀ a k, ¬ ((177 ≤ a ∧ a ≤ 179) ∧ k = h) → I2 a k = I a k
theorem FrJ.tr {h : Nat} {A B C : Nat → Nat → Int64} (x : FrJ h A B) (y : FrJ h B C) : FrJ h A C := fun a k q => (y a k q).trans (x a k q)
theorem FrI.tr {h : Nat} {A B C : Nat → Nat → Int32} (x : FrI h A B) (y : FrI h B C) : FrI h A C := fun a k q => (y a k q).trans (x a k q)
theorem FrJ.u {h k : Nat} {A : Nat → Nat → Int64} {v : Int64} (hk : 3 ≤ k ∧ k ≤ 5) : FrJ h A (u2 A (58 + h) k v) := fun a j q => u2n (by omega)
theorem FrI.u {h t : Nat} {A : Nat → Nat → Int32} {v : Int32} (hk : 177 ≤ t ∧ t ≤ 179) : FrI h A (u2 A t h v) := fun a j q => u2n (by omega)
theorem k58 {σ : Shp} {R : Nat → Nat → Option Nat} (hS : Skel σ R) {h : Nat} (hh : h < 3) : kdx σ (58 + h) = 21 ∧ lnx σ (58 + h) = 11 := by
  have g : ¬ (Int32.ofInt (h : Int) < 0 ∨ 3 ≤ Int32.toNatClampNeg (Int32.ofInt (h : Int))) := by rw [i_gd (by omega)]; exact id
  have a := kr57 hS g
  have b := lr57 hS g
  rw [i_tn (by omega), Int.toNat_natCast] at a b
  exact ⟨a, b⟩
