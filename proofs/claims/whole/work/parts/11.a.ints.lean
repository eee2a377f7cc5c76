/-! ===== ints by their values ===== -/
theorem rep (x : Int32) : ∃ i : Int, -2147483648 ≤ i ∧ i < 2147483648 ∧ x = Int32.ofInt i :=
  ⟨x.toInt, Int32.le_toInt x, Int32.toInt_lt x, (Int32.ofInt_toInt x).symm⟩
theorem repJ (x : Int64) : ∃ i : Int, -9223372036854775808 ≤ i ∧ i < 9223372036854775808 ∧ x = Int64.ofInt i :=
  ⟨x.toInt, Int64.le_toInt x, Int64.toInt_lt x, (Int64.ofInt_toInt x).symm⟩
theorem ti {i : Int} (h1 : -2147483648 ≤ i) (h2 : i < 2147483648) : (Int32.ofInt i).toInt = i := by
  rw [Int32.toInt_ofInt]; rw [Int.bmod_def]; simp only [Int32.size]; omega
theorem tiJ {i : Int} (h1 : -9223372036854775808 ≤ i) (h2 : i < 9223372036854775808) : (Int64.ofInt i).toInt = i := by
  rw [Int64.toInt_ofInt]; rw [Int.bmod_def]; simp only [Int64.size]; omega
theorem lit (k : Nat) : (@OfNat.ofNat Int32 k _) = Int32.ofInt (@OfNat.ofNat Int k _) := (Int32.ofInt_eq_ofNat (n := k)).symm
theorem litJ (k : Nat) : (@OfNat.ofNat Int64 k _) = Int64.ofInt (@OfNat.ofNat Int k _) := (Int64.ofInt_eq_ofNat (n := k)).symm
theorem lpos (k : Nat) : (0 : Int) ≤ (@OfNat.ofNat Int k _) := Int.natCast_nonneg k
theorem i_add (i j : Int) : Int32.ofInt i + Int32.ofInt j = Int32.ofInt (i + j) := (Int32.ofInt_add i j).symm
theorem i_sub (i j : Int) : Int32.ofInt i - Int32.ofInt j = Int32.ofInt (i - j) := (Int32.ofInt_sub i j).symm
theorem i_mul (i j : Int) : Int32.ofInt i * Int32.ofInt j = Int32.ofInt (i * j) := (Int32.ofInt_mul i j).symm
theorem i_neg (i : Int) : - Int32.ofInt i = Int32.ofInt (-i) := (Int32.ofInt_neg i).symm
theorem i_addl (i : Int) (k : Nat) : Int32.ofInt i + (no_index (@OfNat.ofNat Int32 k _)) = Int32.ofInt (i + (@OfNat.ofNat Int k _)) := by rw [lit, i_add]
theorem i_addr (i : Int) (k : Nat) : (no_index (@OfNat.ofNat Int32 k _)) + Int32.ofInt i = Int32.ofInt ((@OfNat.ofNat Int k _) + i) := by rw [lit, i_add]
theorem i_subl (i : Int) (k : Nat) : Int32.ofInt i - (no_index (@OfNat.ofNat Int32 k _)) = Int32.ofInt (i - (@OfNat.ofNat Int k _)) := by rw [lit, i_sub]
theorem i_subr (i : Int) (k : Nat) : (no_index (@OfNat.ofNat Int32 k _)) - Int32.ofInt i = Int32.ofInt ((@OfNat.ofNat Int k _) - i) := by rw [lit, i_sub]
theorem i_mulr (i : Int) (k : Nat) : (no_index (@OfNat.ofNat Int32 k _)) * Int32.ofInt i = Int32.ofInt ((@OfNat.ofNat Int k _) * i) := by rw [lit, i_mul]
theorem i_addn (i : Int) (k : Nat) : Int32.ofInt i + (-(no_index (@OfNat.ofNat Int32 k _))) = Int32.ofInt (i + -(@OfNat.ofNat Int k _)) := by rw [lit, i_neg, i_add]
theorem i_lt {i j : Int} (h1 : -2147483648 ≤ i ∧ i < 2147483648) (h2 : -2147483648 ≤ j ∧ j < 2147483648) : (Int32.ofInt i < Int32.ofInt j) = (i < j) := by
  rw [Int32.lt_iff_toInt_lt, ti h1.1 h1.2, ti h2.1 h2.2]
theorem i_le {i j : Int} (h1 : -2147483648 ≤ i ∧ i < 2147483648) (h2 : -2147483648 ≤ j ∧ j < 2147483648) : (Int32.ofInt i ≤ Int32.ofInt j) = (i ≤ j) := by
  rw [Int32.le_iff_toInt_le, ti h1.1 h1.2, ti h2.1 h2.2]
theorem i_eq {i j : Int} (h1 : -2147483648 ≤ i ∧ i < 2147483648) (h2 : -2147483648 ≤ j ∧ j < 2147483648) : (Int32.ofInt i = Int32.ofInt j) = (i = j) := by
  rw [← Int32.toInt_inj, ti h1.1 h1.2, ti h2.1 h2.2]
theorem i_ltl {i : Int} {k : Nat} (h1 : -2147483648 ≤ i ∧ i < 2147483648 ∧ (@OfNat.ofNat Int k _) < 2147483648) : (Int32.ofInt i < (no_index (@OfNat.ofNat Int32 k _))) = (i < (@OfNat.ofNat Int k _)) := by rw [lit, i_lt ⟨h1.1, h1.2.1⟩ (by have := lpos k; omega)]
theorem i_ltr {i : Int} {k : Nat} (h1 : -2147483648 ≤ i ∧ i < 2147483648 ∧ (@OfNat.ofNat Int k _) < 2147483648) : ((no_index (@OfNat.ofNat Int32 k _)) < Int32.ofInt i) = ((@OfNat.ofNat Int k _) < i) := by rw [lit, i_lt (by have := lpos k; omega) ⟨h1.1, h1.2.1⟩]
theorem i_lel {i : Int} {k : Nat} (h1 : -2147483648 ≤ i ∧ i < 2147483648 ∧ (@OfNat.ofNat Int k _) < 2147483648) : (Int32.ofInt i ≤ (no_index (@OfNat.ofNat Int32 k _))) = (i ≤ (@OfNat.ofNat Int k _)) := by rw [lit, i_le ⟨h1.1, h1.2.1⟩ (by have := lpos k; omega)]
theorem i_ler {i : Int} {k : Nat} (h1 : -2147483648 ≤ i ∧ i < 2147483648 ∧ (@OfNat.ofNat Int k _) < 2147483648) : ((no_index (@OfNat.ofNat Int32 k _)) ≤ Int32.ofInt i) = ((@OfNat.ofNat Int k _) ≤ i) := by rw [lit, i_le (by have := lpos k; omega) ⟨h1.1, h1.2.1⟩]
theorem i_eql {i : Int} {k : Nat} (h1 : -2147483648 ≤ i ∧ i < 2147483648 ∧ (@OfNat.ofNat Int k _) < 2147483648) : (Int32.ofInt i = (no_index (@OfNat.ofNat Int32 k _))) = (i = (@OfNat.ofNat Int k _)) := by rw [lit, i_eq ⟨h1.1, h1.2.1⟩ (by have := lpos k; omega)]
theorem i_eqr {i : Int} {k : Nat} (h1 : -2147483648 ≤ i ∧ i < 2147483648 ∧ (@OfNat.ofNat Int k _) < 2147483648) : ((no_index (@OfNat.ofNat Int32 k _)) = Int32.ofInt i) = ((@OfNat.ofNat Int k _) = i) := by rw [lit, i_eq (by have := lpos k; omega) ⟨h1.1, h1.2.1⟩]
theorem i_ltn {i : Int} {k : Nat} (h1 : -2147483648 ≤ i ∧ i < 2147483648 ∧ (@OfNat.ofNat Int k _) ≤ 2147483648) : (Int32.ofInt i < -(no_index (@OfNat.ofNat Int32 k _))) = (i < -(@OfNat.ofNat Int k _)) := by rw [lit, i_neg, i_lt ⟨h1.1, h1.2.1⟩ (by have := lpos k; omega)]
theorem i_len {i : Int} {k : Nat} (h1 : -2147483648 ≤ i ∧ i < 2147483648 ∧ (@OfNat.ofNat Int k _) ≤ 2147483648) : (-(no_index (@OfNat.ofNat Int32 k _)) ≤ Int32.ofInt i) = (-(@OfNat.ofNat Int k _) ≤ i) := by rw [lit, i_neg, i_le (by have := lpos k; omega) ⟨h1.1, h1.2.1⟩]
theorem i_eqn {i : Int} {k : Nat} (h1 : -2147483648 ≤ i ∧ i < 2147483648 ∧ (@OfNat.ofNat Int k _) ≤ 2147483648) : (Int32.ofInt i = -(no_index (@OfNat.ofNat Int32 k _))) = (i = -(@OfNat.ofNat Int k _)) := by rw [lit, i_neg, i_eq ⟨h1.1, h1.2.1⟩ (by have := lpos k; omega)]
theorem i_tn {i : Int} (h1 : -2147483648 ≤ i ∧ i < 2147483648) : Int32.toNatClampNeg (Int32.ofInt i) = i.toNat := by
  show (Int32.ofInt i).toInt.toNat = _
  rw [ti h1.1 h1.2]
theorem i_gd {i : Int} {n : Nat} (h : 0 ≤ i ∧ i < n ∧ n ≤ 2147483648) : (Int32.ofInt i < 0 ∨ n ≤ Int32.toNatClampNeg (Int32.ofInt i)) = False := by
  rw [i_tn (by omega), i_ltl (by omega)]
  simp only [eq_iff_iff, iff_false]
  omega
theorem i_w {i : Int} (h1 : -2147483648 ≤ i ∧ i < 2147483648) : Int32.toInt64 (Int32.ofInt i) = Int64.ofInt i := by
  rw [← Int64.toInt_inj, Int32.toInt_toInt64, ti h1.1 h1.2, tiJ (by omega) (by omega)]
theorem j_add (i j : Int) : Int64.ofInt i + Int64.ofInt j = Int64.ofInt (i + j) := (Int64.ofInt_add i j).symm
theorem j_sub (i j : Int) : Int64.ofInt i - Int64.ofInt j = Int64.ofInt (i - j) := (Int64.ofInt_sub i j).symm
theorem j_mul (i j : Int) : Int64.ofInt i * Int64.ofInt j = Int64.ofInt (i * j) := (Int64.ofInt_mul i j).symm
theorem j_neg (i : Int) : - Int64.ofInt i = Int64.ofInt (-i) := (Int64.ofInt_neg i).symm
theorem j_addl (i : Int) (k : Nat) : Int64.ofInt i + (no_index (@OfNat.ofNat Int64 k _)) = Int64.ofInt (i + (@OfNat.ofNat Int k _)) := by rw [litJ, j_add]
theorem j_addr (i : Int) (k : Nat) : (no_index (@OfNat.ofNat Int64 k _)) + Int64.ofInt i = Int64.ofInt ((@OfNat.ofNat Int k _) + i) := by rw [litJ, j_add]
theorem j_subl (i : Int) (k : Nat) : Int64.ofInt i - (no_index (@OfNat.ofNat Int64 k _)) = Int64.ofInt (i - (@OfNat.ofNat Int k _)) := by rw [litJ, j_sub]
theorem j_subr (i : Int) (k : Nat) : (no_index (@OfNat.ofNat Int64 k _)) - Int64.ofInt i = Int64.ofInt ((@OfNat.ofNat Int k _) - i) := by rw [litJ, j_sub]
theorem j_mulr (i : Int) (k : Nat) : (no_index (@OfNat.ofNat Int64 k _)) * Int64.ofInt i = Int64.ofInt ((@OfNat.ofNat Int k _) * i) := by rw [litJ, j_mul]
theorem j_lt {i j : Int} (h1 : -9223372036854775808 ≤ i ∧ i < 9223372036854775808) (h2 : -9223372036854775808 ≤ j ∧ j < 9223372036854775808) : (Int64.ofInt i < Int64.ofInt j) = (i < j) := by
  rw [Int64.lt_iff_toInt_lt, tiJ h1.1 h1.2, tiJ h2.1 h2.2]
theorem j_le {i j : Int} (h1 : -9223372036854775808 ≤ i ∧ i < 9223372036854775808) (h2 : -9223372036854775808 ≤ j ∧ j < 9223372036854775808) : (Int64.ofInt i ≤ Int64.ofInt j) = (i ≤ j) := by
  rw [Int64.le_iff_toInt_le, tiJ h1.1 h1.2, tiJ h2.1 h2.2]
theorem j_eq {i j : Int} (h1 : -9223372036854775808 ≤ i ∧ i < 9223372036854775808) (h2 : -9223372036854775808 ≤ j ∧ j < 9223372036854775808) : (Int64.ofInt i = Int64.ofInt j) = (i = j) := by
  rw [← Int64.toInt_inj, tiJ h1.1 h1.2, tiJ h2.1 h2.2]
theorem j_ltl {i : Int} {k : Nat} (h1 : -9223372036854775808 ≤ i ∧ i < 9223372036854775808 ∧ (@OfNat.ofNat Int k _) < 9223372036854775808) : (Int64.ofInt i < (no_index (@OfNat.ofNat Int64 k _))) = (i < (@OfNat.ofNat Int k _)) := by rw [litJ, j_lt ⟨h1.1, h1.2.1⟩ (by have := lpos k; omega)]
theorem j_ltr {i : Int} {k : Nat} (h1 : -9223372036854775808 ≤ i ∧ i < 9223372036854775808 ∧ (@OfNat.ofNat Int k _) < 9223372036854775808) : ((no_index (@OfNat.ofNat Int64 k _)) < Int64.ofInt i) = ((@OfNat.ofNat Int k _) < i) := by rw [litJ, j_lt (by have := lpos k; omega) ⟨h1.1, h1.2.1⟩]
theorem j_lel {i : Int} {k : Nat} (h1 : -9223372036854775808 ≤ i ∧ i < 9223372036854775808 ∧ (@OfNat.ofNat Int k _) < 9223372036854775808) : (Int64.ofInt i ≤ (no_index (@OfNat.ofNat Int64 k _))) = (i ≤ (@OfNat.ofNat Int k _)) := by rw [litJ, j_le ⟨h1.1, h1.2.1⟩ (by have := lpos k; omega)]
theorem j_ler {i : Int} {k : Nat} (h1 : -9223372036854775808 ≤ i ∧ i < 9223372036854775808 ∧ (@OfNat.ofNat Int k _) < 9223372036854775808) : ((no_index (@OfNat.ofNat Int64 k _)) ≤ Int64.ofInt i) = ((@OfNat.ofNat Int k _) ≤ i) := by rw [litJ, j_le (by have := lpos k; omega) ⟨h1.1, h1.2.1⟩]
theorem j_eql {i : Int} {k : Nat} (h1 : -9223372036854775808 ≤ i ∧ i < 9223372036854775808 ∧ (@OfNat.ofNat Int k _) < 9223372036854775808) : (Int64.ofInt i = (no_index (@OfNat.ofNat Int64 k _))) = (i = (@OfNat.ofNat Int k _)) := by rw [litJ, j_eq ⟨h1.1, h1.2.1⟩ (by have := lpos k; omega)]
theorem ob_some {α β : Type} (a : α) (k : α → Option β) : (some a).bind k = k a := rfl
