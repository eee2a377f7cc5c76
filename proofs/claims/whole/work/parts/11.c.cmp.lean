/-! ===== comparisons that are known; truths of the two systems (laid by gen/cmp.py) ===== -/
theorem i_ltlT {i : Int} {k : Nat} (h : (-2147483648 ≤ i ∧ i < 2147483648 ∧ (@OfNat.ofNat Int k _) < 2147483648) ∧ i < (@OfNat.ofNat Int k _)) : (Int32.ofInt i < (no_index (@OfNat.ofNat Int32 k _))) = True := (i_ltl ⟨h.1.1, h.1.2.1, h.1.2.2⟩).trans (eq_true h.2)
theorem i_ltlF {i : Int} {k : Nat} (h : (-2147483648 ≤ i ∧ i < 2147483648 ∧ (@OfNat.ofNat Int k _) < 2147483648) ∧ ¬ (i < (@OfNat.ofNat Int k _))) : (Int32.ofInt i < (no_index (@OfNat.ofNat Int32 k _))) = False := (i_ltl ⟨h.1.1, h.1.2.1, h.1.2.2⟩).trans (eq_false h.2)
theorem i_ltrT {i : Int} {k : Nat} (h : (-2147483648 ≤ i ∧ i < 2147483648 ∧ (@OfNat.ofNat Int k _) < 2147483648) ∧ (@OfNat.ofNat Int k _) < i) : ((no_index (@OfNat.ofNat Int32 k _)) < Int32.ofInt i) = True := (i_ltr ⟨h.1.1, h.1.2.1, h.1.2.2⟩).trans (eq_true h.2)
theorem i_ltrF {i : Int} {k : Nat} (h : (-2147483648 ≤ i ∧ i < 2147483648 ∧ (@OfNat.ofNat Int k _) < 2147483648) ∧ ¬ ((@OfNat.ofNat Int k _) < i)) : ((no_index (@OfNat.ofNat Int32 k _)) < Int32.ofInt i) = False := (i_ltr ⟨h.1.1, h.1.2.1, h.1.2.2⟩).trans (eq_false h.2)
theorem i_lelT {i : Int} {k : Nat} (h : (-2147483648 ≤ i ∧ i < 2147483648 ∧ (@OfNat.ofNat Int k _) < 2147483648) ∧ i ≤ (@OfNat.ofNat Int k _)) : (Int32.ofInt i ≤ (no_index (@OfNat.ofNat Int32 k _))) = True := (i_lel ⟨h.1.1, h.1.2.1, h.1.2.2⟩).trans (eq_true h.2)
theorem i_lelF {i : Int} {k : Nat} (h : (-2147483648 ≤ i ∧ i < 2147483648 ∧ (@OfNat.ofNat Int k _) < 2147483648) ∧ ¬ (i ≤ (@OfNat.ofNat Int k _))) : (Int32.ofInt i ≤ (no_index (@OfNat.ofNat Int32 k _))) = False := (i_lel ⟨h.1.1, h.1.2.1, h.1.2.2⟩).trans (eq_false h.2)
theorem i_lerT {i : Int} {k : Nat} (h : (-2147483648 ≤ i ∧ i < 2147483648 ∧ (@OfNat.ofNat Int k _) < 2147483648) ∧ (@OfNat.ofNat Int k _) ≤ i) : ((no_index (@OfNat.ofNat Int32 k _)) ≤ Int32.ofInt i) = True := (i_ler ⟨h.1.1, h.1.2.1, h.1.2.2⟩).trans (eq_true h.2)
theorem i_lerF {i : Int} {k : Nat} (h : (-2147483648 ≤ i ∧ i < 2147483648 ∧ (@OfNat.ofNat Int k _) < 2147483648) ∧ ¬ ((@OfNat.ofNat Int k _) ≤ i)) : ((no_index (@OfNat.ofNat Int32 k _)) ≤ Int32.ofInt i) = False := (i_ler ⟨h.1.1, h.1.2.1, h.1.2.2⟩).trans (eq_false h.2)
theorem i_eqlT {i : Int} {k : Nat} (h : (-2147483648 ≤ i ∧ i < 2147483648 ∧ (@OfNat.ofNat Int k _) < 2147483648) ∧ i = (@OfNat.ofNat Int k _)) : (Int32.ofInt i = (no_index (@OfNat.ofNat Int32 k _))) = True := (i_eql ⟨h.1.1, h.1.2.1, h.1.2.2⟩).trans (eq_true h.2)
theorem i_eqlF {i : Int} {k : Nat} (h : (-2147483648 ≤ i ∧ i < 2147483648 ∧ (@OfNat.ofNat Int k _) < 2147483648) ∧ ¬ (i = (@OfNat.ofNat Int k _))) : (Int32.ofInt i = (no_index (@OfNat.ofNat Int32 k _))) = False := (i_eql ⟨h.1.1, h.1.2.1, h.1.2.2⟩).trans (eq_false h.2)
theorem i_eqrT {i : Int} {k : Nat} (h : (-2147483648 ≤ i ∧ i < 2147483648 ∧ (@OfNat.ofNat Int k _) < 2147483648) ∧ (@OfNat.ofNat Int k _) = i) : ((no_index (@OfNat.ofNat Int32 k _)) = Int32.ofInt i) = True := (i_eqr ⟨h.1.1, h.1.2.1, h.1.2.2⟩).trans (eq_true h.2)
theorem i_eqrF {i : Int} {k : Nat} (h : (-2147483648 ≤ i ∧ i < 2147483648 ∧ (@OfNat.ofNat Int k _) < 2147483648) ∧ ¬ ((@OfNat.ofNat Int k _) = i)) : ((no_index (@OfNat.ofNat Int32 k _)) = Int32.ofInt i) = False := (i_eqr ⟨h.1.1, h.1.2.1, h.1.2.2⟩).trans (eq_false h.2)
theorem i_ltnT {i : Int} {k : Nat} (h : (-2147483648 ≤ i ∧ i < 2147483648 ∧ (@OfNat.ofNat Int k _) ≤ 2147483648) ∧ i < -(@OfNat.ofNat Int k _)) : (Int32.ofInt i < -(no_index (@OfNat.ofNat Int32 k _))) = True := (i_ltn ⟨h.1.1, h.1.2.1, h.1.2.2⟩).trans (eq_true h.2)
theorem i_ltnF {i : Int} {k : Nat} (h : (-2147483648 ≤ i ∧ i < 2147483648 ∧ (@OfNat.ofNat Int k _) ≤ 2147483648) ∧ ¬ (i < -(@OfNat.ofNat Int k _))) : (Int32.ofInt i < -(no_index (@OfNat.ofNat Int32 k _))) = False := (i_ltn ⟨h.1.1, h.1.2.1, h.1.2.2⟩).trans (eq_false h.2)
theorem i_lenT {i : Int} {k : Nat} (h : (-2147483648 ≤ i ∧ i < 2147483648 ∧ (@OfNat.ofNat Int k _) ≤ 2147483648) ∧ -(@OfNat.ofNat Int k _) ≤ i) : (-(no_index (@OfNat.ofNat Int32 k _)) ≤ Int32.ofInt i) = True := (i_len ⟨h.1.1, h.1.2.1, h.1.2.2⟩).trans (eq_true h.2)
theorem i_lenF {i : Int} {k : Nat} (h : (-2147483648 ≤ i ∧ i < 2147483648 ∧ (@OfNat.ofNat Int k _) ≤ 2147483648) ∧ ¬ (-(@OfNat.ofNat Int k _) ≤ i)) : (-(no_index (@OfNat.ofNat Int32 k _)) ≤ Int32.ofInt i) = False := (i_len ⟨h.1.1, h.1.2.1, h.1.2.2⟩).trans (eq_false h.2)
theorem i_eqnT {i : Int} {k : Nat} (h : (-2147483648 ≤ i ∧ i < 2147483648 ∧ (@OfNat.ofNat Int k _) ≤ 2147483648) ∧ i = -(@OfNat.ofNat Int k _)) : (Int32.ofInt i = -(no_index (@OfNat.ofNat Int32 k _))) = True := (i_eqn ⟨h.1.1, h.1.2.1, h.1.2.2⟩).trans (eq_true h.2)
theorem i_eqnF {i : Int} {k : Nat} (h : (-2147483648 ≤ i ∧ i < 2147483648 ∧ (@OfNat.ofNat Int k _) ≤ 2147483648) ∧ ¬ (i = -(@OfNat.ofNat Int k _))) : (Int32.ofInt i = -(no_index (@OfNat.ofNat Int32 k _))) = False := (i_eqn ⟨h.1.1, h.1.2.1, h.1.2.2⟩).trans (eq_false h.2)
theorem i_ltT {i j : Int} (h : (-2147483648 ≤ i ∧ i < 2147483648) ∧ (-2147483648 ≤ j ∧ j < 2147483648) ∧ i < j) : (Int32.ofInt i < Int32.ofInt j) = True := (i_lt h.1 h.2.1).trans (eq_true h.2.2)
theorem i_ltF {i j : Int} (h : (-2147483648 ≤ i ∧ i < 2147483648) ∧ (-2147483648 ≤ j ∧ j < 2147483648) ∧ ¬ (i < j)) : (Int32.ofInt i < Int32.ofInt j) = False := (i_lt h.1 h.2.1).trans (eq_false h.2.2)
theorem i_leT {i j : Int} (h : (-2147483648 ≤ i ∧ i < 2147483648) ∧ (-2147483648 ≤ j ∧ j < 2147483648) ∧ i ≤ j) : (Int32.ofInt i ≤ Int32.ofInt j) = True := (i_le h.1 h.2.1).trans (eq_true h.2.2)
theorem i_leF {i j : Int} (h : (-2147483648 ≤ i ∧ i < 2147483648) ∧ (-2147483648 ≤ j ∧ j < 2147483648) ∧ ¬ (i ≤ j)) : (Int32.ofInt i ≤ Int32.ofInt j) = False := (i_le h.1 h.2.1).trans (eq_false h.2.2)
theorem i_eqT {i j : Int} (h : (-2147483648 ≤ i ∧ i < 2147483648) ∧ (-2147483648 ≤ j ∧ j < 2147483648) ∧ i = j) : (Int32.ofInt i = Int32.ofInt j) = True := (i_eq h.1 h.2.1).trans (eq_true h.2.2)
theorem i_eqF {i j : Int} (h : (-2147483648 ≤ i ∧ i < 2147483648) ∧ (-2147483648 ≤ j ∧ j < 2147483648) ∧ ¬ (i = j)) : (Int32.ofInt i = Int32.ofInt j) = False := (i_eq h.1 h.2.1).trans (eq_false h.2.2)
theorem j_ltlT {i : Int} {k : Nat} (h : (-9223372036854775808 ≤ i ∧ i < 9223372036854775808 ∧ (@OfNat.ofNat Int k _) < 9223372036854775808) ∧ i < (@OfNat.ofNat Int k _)) : (Int64.ofInt i < (no_index (@OfNat.ofNat Int64 k _))) = True := (j_ltl ⟨h.1.1, h.1.2.1, h.1.2.2⟩).trans (eq_true h.2)
theorem j_ltlF {i : Int} {k : Nat} (h : (-9223372036854775808 ≤ i ∧ i < 9223372036854775808 ∧ (@OfNat.ofNat Int k _) < 9223372036854775808) ∧ ¬ (i < (@OfNat.ofNat Int k _))) : (Int64.ofInt i < (no_index (@OfNat.ofNat Int64 k _))) = False := (j_ltl ⟨h.1.1, h.1.2.1, h.1.2.2⟩).trans (eq_false h.2)
theorem j_ltrT {i : Int} {k : Nat} (h : (-9223372036854775808 ≤ i ∧ i < 9223372036854775808 ∧ (@OfNat.ofNat Int k _) < 9223372036854775808) ∧ (@OfNat.ofNat Int k _) < i) : ((no_index (@OfNat.ofNat Int64 k _)) < Int64.ofInt i) = True := (j_ltr ⟨h.1.1, h.1.2.1, h.1.2.2⟩).trans (eq_true h.2)
theorem j_ltrF {i : Int} {k : Nat} (h : (-9223372036854775808 ≤ i ∧ i < 9223372036854775808 ∧ (@OfNat.ofNat Int k _) < 9223372036854775808) ∧ ¬ ((@OfNat.ofNat Int k _) < i)) : ((no_index (@OfNat.ofNat Int64 k _)) < Int64.ofInt i) = False := (j_ltr ⟨h.1.1, h.1.2.1, h.1.2.2⟩).trans (eq_false h.2)
theorem j_lelT {i : Int} {k : Nat} (h : (-9223372036854775808 ≤ i ∧ i < 9223372036854775808 ∧ (@OfNat.ofNat Int k _) < 9223372036854775808) ∧ i ≤ (@OfNat.ofNat Int k _)) : (Int64.ofInt i ≤ (no_index (@OfNat.ofNat Int64 k _))) = True := (j_lel ⟨h.1.1, h.1.2.1, h.1.2.2⟩).trans (eq_true h.2)
theorem j_lelF {i : Int} {k : Nat} (h : (-9223372036854775808 ≤ i ∧ i < 9223372036854775808 ∧ (@OfNat.ofNat Int k _) < 9223372036854775808) ∧ ¬ (i ≤ (@OfNat.ofNat Int k _))) : (Int64.ofInt i ≤ (no_index (@OfNat.ofNat Int64 k _))) = False := (j_lel ⟨h.1.1, h.1.2.1, h.1.2.2⟩).trans (eq_false h.2)
theorem j_lerT {i : Int} {k : Nat} (h : (-9223372036854775808 ≤ i ∧ i < 9223372036854775808 ∧ (@OfNat.ofNat Int k _) < 9223372036854775808) ∧ (@OfNat.ofNat Int k _) ≤ i) : ((no_index (@OfNat.ofNat Int64 k _)) ≤ Int64.ofInt i) = True := (j_ler ⟨h.1.1, h.1.2.1, h.1.2.2⟩).trans (eq_true h.2)
theorem j_lerF {i : Int} {k : Nat} (h : (-9223372036854775808 ≤ i ∧ i < 9223372036854775808 ∧ (@OfNat.ofNat Int k _) < 9223372036854775808) ∧ ¬ ((@OfNat.ofNat Int k _) ≤ i)) : ((no_index (@OfNat.ofNat Int64 k _)) ≤ Int64.ofInt i) = False := (j_ler ⟨h.1.1, h.1.2.1, h.1.2.2⟩).trans (eq_false h.2)
theorem j_eqlT {i : Int} {k : Nat} (h : (-9223372036854775808 ≤ i ∧ i < 9223372036854775808 ∧ (@OfNat.ofNat Int k _) < 9223372036854775808) ∧ i = (@OfNat.ofNat Int k _)) : (Int64.ofInt i = (no_index (@OfNat.ofNat Int64 k _))) = True := (j_eql ⟨h.1.1, h.1.2.1, h.1.2.2⟩).trans (eq_true h.2)
theorem j_eqlF {i : Int} {k : Nat} (h : (-9223372036854775808 ≤ i ∧ i < 9223372036854775808 ∧ (@OfNat.ofNat Int k _) < 9223372036854775808) ∧ ¬ (i = (@OfNat.ofNat Int k _))) : (Int64.ofInt i = (no_index (@OfNat.ofNat Int64 k _))) = False := (j_eql ⟨h.1.1, h.1.2.1, h.1.2.2⟩).trans (eq_false h.2)
theorem j_ltT {i j : Int} (h : (-9223372036854775808 ≤ i ∧ i < 9223372036854775808) ∧ (-9223372036854775808 ≤ j ∧ j < 9223372036854775808) ∧ i < j) : (Int64.ofInt i < Int64.ofInt j) = True := (j_lt h.1 h.2.1).trans (eq_true h.2.2)
theorem j_ltF {i j : Int} (h : (-9223372036854775808 ≤ i ∧ i < 9223372036854775808) ∧ (-9223372036854775808 ≤ j ∧ j < 9223372036854775808) ∧ ¬ (i < j)) : (Int64.ofInt i < Int64.ofInt j) = False := (j_lt h.1 h.2.1).trans (eq_false h.2.2)
theorem j_leT {i j : Int} (h : (-9223372036854775808 ≤ i ∧ i < 9223372036854775808) ∧ (-9223372036854775808 ≤ j ∧ j < 9223372036854775808) ∧ i ≤ j) : (Int64.ofInt i ≤ Int64.ofInt j) = True := (j_le h.1 h.2.1).trans (eq_true h.2.2)
theorem j_leF {i j : Int} (h : (-9223372036854775808 ≤ i ∧ i < 9223372036854775808) ∧ (-9223372036854775808 ≤ j ∧ j < 9223372036854775808) ∧ ¬ (i ≤ j)) : (Int64.ofInt i ≤ Int64.ofInt j) = False := (j_le h.1 h.2.1).trans (eq_false h.2.2)
theorem j_eqT {i j : Int} (h : (-9223372036854775808 ≤ i ∧ i < 9223372036854775808) ∧ (-9223372036854775808 ≤ j ∧ j < 9223372036854775808) ∧ i = j) : (Int64.ofInt i = Int64.ofInt j) = True := (j_eq h.1 h.2.1).trans (eq_true h.2.2)
theorem j_eqF {i j : Int} (h : (-9223372036854775808 ≤ i ∧ i < 9223372036854775808) ∧ (-9223372036854775808 ≤ j ∧ j < 9223372036854775808) ∧ ¬ (i = j)) : (Int64.ofInt i = Int64.ofInt j) = False := (j_eq h.1 h.2.1).trans (eq_false h.2.2)
theorem i_mull (i : Int) (k : Nat) : Int32.ofInt i * (no_index (@OfNat.ofNat Int32 k _)) = Int32.ofInt (i * (@OfNat.ofNat Int k _)) := by rw [lit, i_mul]
theorem l_tn {k : Nat} (h : (@OfNat.ofNat Int k _) < 2147483648) : Int32.toNatClampNeg (no_index (@OfNat.ofNat Int32 k _)) = (@OfNat.ofNat Nat k _) := by
  have := lpos k
  rw [lit, i_tn (by omega)]
  rfl
theorem l_lt0 {k : Nat} (h : (@OfNat.ofNat Int k _) < 2147483648) : ((no_index (@OfNat.ofNat Int32 k _)) < 0) = False := by
  have := lpos k
  rw [lit k, i_ltl (by omega)]
  apply eq_false; omega
theorem l_ne0 {k : Nat} (h : 0 < (@OfNat.ofNat Int k _) ∧ (@OfNat.ofNat Int k _) < 2147483648) : ((no_index (@OfNat.ofNat Int32 k _)) = 0) = False := by
  rw [lit k, i_eql (by omega)]
  apply eq_false; omega
theorem nleF {a b : Nat} (h : b < a) : (a ≤ b) = False := eq_false (by omega)
theorem tX11_isStockT {i : Int} (h : 0 ≤ i ∧ i ≤ 5) : fX11_isStock (Int32.ofInt i) = 1 := by
  unfold fX11_isStock
  simp (disch := omega) only [i_ltl, i_ler, i_ltr, i_lel]
  rw [if_neg (by omega), if_neg (by omega)]
theorem tX11_isStockF {i : Int} (h : (-2147483648 ≤ i ∧ i < 2147483648) ∧ ¬ (0 ≤ i ∧ i ≤ 5)) : fX11_isStock (Int32.ofInt i) = 0 := by
  unfold fX11_isStock
  simp (disch := omega) only [i_ltl, i_ler, i_ltr, i_lel]
  by_cases q : i < 0
  · rw [if_pos q]
  · rw [if_neg q, if_pos (by omega)]
theorem tX11_isBinT {i : Int} (h : 0 ≤ i ∧ i ≤ 15) : fX11_isBin (Int32.ofInt i) = 1 := by
  unfold fX11_isBin
  simp (disch := omega) only [i_ltl, i_ler, i_ltr, i_lel]
  rw [if_neg (by omega), if_neg (by omega)]
theorem tX11_isBinF {i : Int} (h : (-2147483648 ≤ i ∧ i < 2147483648) ∧ ¬ (0 ≤ i ∧ i ≤ 15)) : fX11_isBin (Int32.ofInt i) = 0 := by
  unfold fX11_isBin
  simp (disch := omega) only [i_ltl, i_ler, i_ltr, i_lel]
  by_cases q : i < 0
  · rw [if_pos q]
  · rw [if_neg q, if_pos (by omega)]
theorem tX11_isPlanT {i : Int} (h : 0 ≤ i ∧ i ≤ 3) : fX11_isPlan (Int32.ofInt i) = 1 := by
  unfold fX11_isPlan
  simp (disch := omega) only [i_ltl, i_ler, i_ltr, i_lel]
  rw [if_neg (by omega), if_neg (by omega)]
theorem tX11_isPlanF {i : Int} (h : (-2147483648 ≤ i ∧ i < 2147483648) ∧ ¬ (0 ≤ i ∧ i ≤ 3)) : fX11_isPlan (Int32.ofInt i) = 0 := by
  unfold fX11_isPlan
  simp (disch := omega) only [i_ltl, i_ler, i_ltr, i_lel]
  by_cases q : i < 0
  · rw [if_pos q]
  · rw [if_neg q, if_pos (by omega)]
theorem tX11_isValveT {i : Int} (h : 0 ≤ i ∧ i ≤ 2) : fX11_isValve (Int32.ofInt i) = 1 := by
  unfold fX11_isValve
  simp (disch := omega) only [i_ltl, i_ler, i_ltr, i_lel]
  rw [if_neg (by omega), if_neg (by omega)]
theorem tX11_isValveF {i : Int} (h : (-2147483648 ≤ i ∧ i < 2147483648) ∧ ¬ (0 ≤ i ∧ i ≤ 2)) : fX11_isValve (Int32.ofInt i) = 0 := by
  unfold fX11_isValve
  simp (disch := omega) only [i_ltl, i_ler, i_ltr, i_lel]
  by_cases q : i < 0
  · rw [if_pos q]
  · rw [if_neg q, if_pos (by omega)]
theorem tX11_isLaneT {i : Int} (h : 0 ≤ i ∧ i ≤ 7) : fX11_isLane (Int32.ofInt i) = 1 := by
  unfold fX11_isLane
  simp (disch := omega) only [i_ltl, i_ler, i_ltr, i_lel]
  rw [if_neg (by omega), if_neg (by omega)]
theorem tX11_isLaneF {i : Int} (h : (-2147483648 ≤ i ∧ i < 2147483648) ∧ ¬ (0 ≤ i ∧ i ≤ 7)) : fX11_isLane (Int32.ofInt i) = 0 := by
  unfold fX11_isLane
  simp (disch := omega) only [i_ltl, i_ler, i_ltr, i_lel]
  by_cases q : i < 0
  · rw [if_pos q]
  · rw [if_neg q, if_pos (by omega)]
theorem tX11_isGridFormT {i : Int} (h : 8 ≤ i ∧ i ≤ 10) : fX11_isGridForm (Int32.ofInt i) = 1 := by
  unfold fX11_isGridForm
  simp (disch := omega) only [i_ltl, i_ler, i_ltr, i_lel]
  rw [if_neg (by omega), if_neg (by omega)]
theorem tX11_isGridFormF {i : Int} (h : (-2147483648 ≤ i ∧ i < 2147483648) ∧ ¬ (8 ≤ i ∧ i ≤ 10)) : fX11_isGridForm (Int32.ofInt i) = 0 := by
  unfold fX11_isGridForm
  simp (disch := omega) only [i_ltl, i_ler, i_ltr, i_lel]
  by_cases q : i < 8
  · rw [if_pos q]
  · rw [if_neg q, if_pos (by omega)]
theorem tX11_isFormT {i : Int} (h : 0 ≤ i ∧ i ≤ 17) : fX11_isForm (Int32.ofInt i) = 1 := by
  unfold fX11_isForm
  simp (disch := omega) only [i_ltl, i_ler, i_ltr, i_lel]
  rw [if_neg (by omega), if_neg (by omega)]
theorem tX11_isFormF {i : Int} (h : (-2147483648 ≤ i ∧ i < 2147483648) ∧ ¬ (0 ≤ i ∧ i ≤ 17)) : fX11_isForm (Int32.ofInt i) = 0 := by
  unfold fX11_isForm
  simp (disch := omega) only [i_ltl, i_ler, i_ltr, i_lel]
  by_cases q : i < 0
  · rw [if_pos q]
  · rw [if_neg q, if_pos (by omega)]
theorem tX11_isTrayFormT {i : Int} (h : 12 ≤ i ∧ i ≤ 15) : fX11_isTrayForm (Int32.ofInt i) = 1 := by
  unfold fX11_isTrayForm
  simp (disch := omega) only [i_ltl, i_ler, i_ltr, i_lel]
  rw [if_neg (by omega), if_neg (by omega)]
theorem tX11_isTrayFormF {i : Int} (h : (-2147483648 ≤ i ∧ i < 2147483648) ∧ ¬ (12 ≤ i ∧ i ≤ 15)) : fX11_isTrayForm (Int32.ofInt i) = 0 := by
  unfold fX11_isTrayForm
  simp (disch := omega) only [i_ltl, i_ler, i_ltr, i_lel]
  by_cases q : i < 12
  · rw [if_pos q]
  · rw [if_neg q, if_pos (by omega)]
theorem tX11_isPlacesFormT {i : Int} (h : 8 ≤ i ∧ i ≤ 15) : fX11_isPlacesForm (Int32.ofInt i) = 1 := by
  unfold fX11_isPlacesForm
  simp (disch := omega) only [i_ltl, i_ler, i_ltr, i_lel]
  rw [if_neg (by omega), if_neg (by omega)]
theorem tX11_isPlacesFormF {i : Int} (h : (-2147483648 ≤ i ∧ i < 2147483648) ∧ ¬ (8 ≤ i ∧ i ≤ 15)) : fX11_isPlacesForm (Int32.ofInt i) = 0 := by
  unfold fX11_isPlacesForm
  simp (disch := omega) only [i_ltl, i_ler, i_ltr, i_lel]
  by_cases q : i < 8
  · rw [if_pos q]
  · rw [if_neg q, if_pos (by omega)]
theorem tX11_isTableT {i : Int} (h : 0 ≤ i ∧ i ≤ 2) : fX11_isTable (Int32.ofInt i) = 1 := by
  unfold fX11_isTable
  simp (disch := omega) only [i_ltl, i_ler, i_ltr, i_lel]
  rw [if_neg (by omega), if_neg (by omega)]
theorem tX11_isTableF {i : Int} (h : (-2147483648 ≤ i ∧ i < 2147483648) ∧ ¬ (0 ≤ i ∧ i ≤ 2)) : fX11_isTable (Int32.ofInt i) = 0 := by
  unfold fX11_isTable
  simp (disch := omega) only [i_ltl, i_ler, i_ltr, i_lel]
  by_cases q : i < 0
  · rw [if_pos q]
  · rw [if_neg q, if_pos (by omega)]
theorem tX11_isProbeT {i : Int} (h : 0 ≤ i ∧ i ≤ 8) : fX11_isProbe (Int32.ofInt i) = 1 := by
  unfold fX11_isProbe
  simp (disch := omega) only [i_ltl, i_ler, i_ltr, i_lel]
  rw [if_neg (by omega), if_neg (by omega)]
theorem tX11_isProbeF {i : Int} (h : (-2147483648 ≤ i ∧ i < 2147483648) ∧ ¬ (0 ≤ i ∧ i ≤ 8)) : fX11_isProbe (Int32.ofInt i) = 0 := by
  unfold fX11_isProbe
  simp (disch := omega) only [i_ltl, i_ler, i_ltr, i_lel]
  by_cases q : i < 0
  · rw [if_pos q]
  · rw [if_neg q, if_pos (by omega)]
theorem tX11_isHouseT {i : Int} (h : 0 ≤ i ∧ i ≤ 2) : fX11_isHouse (Int32.ofInt i) = 1 := by
  unfold fX11_isHouse
  simp (disch := omega) only [i_ltl, i_ler, i_ltr, i_lel]
  rw [if_neg (by omega), if_neg (by omega)]
theorem tX11_isHouseF {i : Int} (h : (-2147483648 ≤ i ∧ i < 2147483648) ∧ ¬ (0 ≤ i ∧ i ≤ 2)) : fX11_isHouse (Int32.ofInt i) = 0 := by
  unfold fX11_isHouse
  simp (disch := omega) only [i_ltl, i_ler, i_ltr, i_lel]
  by_cases q : i < 0
  · rw [if_pos q]
  · rw [if_neg q, if_pos (by omega)]
theorem tX11_isPestT {i : Int} (h : 0 ≤ i ∧ i ≤ 1) : fX11_isPest (Int32.ofInt i) = 1 := by
  unfold fX11_isPest
  simp (disch := omega) only [i_ltl, i_ler, i_ltr, i_lel]
  rw [if_neg (by omega), if_neg (by omega)]
theorem tX11_isPestF {i : Int} (h : (-2147483648 ≤ i ∧ i < 2147483648) ∧ ¬ (0 ≤ i ∧ i ≤ 1)) : fX11_isPest (Int32.ofInt i) = 0 := by
  unfold fX11_isPest
  simp (disch := omega) only [i_ltl, i_ler, i_ltr, i_lel]
  by_cases q : i < 0
  · rw [if_pos q]
  · rw [if_neg q, if_pos (by omega)]
theorem tX11_isStageT {i : Int} (h : 0 ≤ i ∧ i ≤ 3) : fX11_isStage (Int32.ofInt i) = 1 := by
  unfold fX11_isStage
  simp (disch := omega) only [i_ltl, i_ler, i_ltr, i_lel]
  rw [if_neg (by omega), if_neg (by omega)]
theorem tX11_isStageF {i : Int} (h : (-2147483648 ≤ i ∧ i < 2147483648) ∧ ¬ (0 ≤ i ∧ i ≤ 3)) : fX11_isStage (Int32.ofInt i) = 0 := by
  unfold fX11_isStage
  simp (disch := omega) only [i_ltl, i_ler, i_ltr, i_lel]
  by_cases q : i < 0
  · rw [if_pos q]
  · rw [if_neg q, if_pos (by omega)]
theorem tX11_isPartT {i : Int} (h : 0 ≤ i ∧ i ≤ 1000) : fX11_isPart (Int32.ofInt i) = 1 := by
  unfold fX11_isPart
  simp (disch := omega) only [i_ltl, i_ler, i_ltr, i_lel]
  rw [if_neg (by omega), if_neg (by omega)]
theorem tX11_isPartF {i : Int} (h : (-2147483648 ≤ i ∧ i < 2147483648) ∧ ¬ (0 ≤ i ∧ i ≤ 1000)) : fX11_isPart (Int32.ofInt i) = 0 := by
  unfold fX11_isPart
  simp (disch := omega) only [i_ltl, i_ler, i_ltr, i_lel]
  by_cases q : i < 0
  · rw [if_pos q]
  · rw [if_neg q, if_pos (by omega)]
theorem tX12_isBinT {i : Int} (h : 0 ≤ i ∧ i ≤ 15) : fX12_isBin (Int32.ofInt i) = 1 := by
  unfold fX12_isBin
  simp (disch := omega) only [i_ltl, i_ler, i_ltr, i_lel]
  rw [if_neg (by omega), if_neg (by omega)]
theorem tX12_isBinF {i : Int} (h : (-2147483648 ≤ i ∧ i < 2147483648) ∧ ¬ (0 ≤ i ∧ i ≤ 15)) : fX12_isBin (Int32.ofInt i) = 0 := by
  unfold fX12_isBin
  simp (disch := omega) only [i_ltl, i_ler, i_ltr, i_lel]
  by_cases q : i < 0
  · rw [if_pos q]
  · rw [if_neg q, if_pos (by omega)]
theorem tX12_isTableT {i : Int} (h : 0 ≤ i ∧ i ≤ 2) : fX12_isTable (Int32.ofInt i) = 1 := by
  unfold fX12_isTable
  simp (disch := omega) only [i_ltl, i_ler, i_ltr, i_lel]
  rw [if_neg (by omega), if_neg (by omega)]
theorem tX12_isTableF {i : Int} (h : (-2147483648 ≤ i ∧ i < 2147483648) ∧ ¬ (0 ≤ i ∧ i ≤ 2)) : fX12_isTable (Int32.ofInt i) = 0 := by
  unfold fX12_isTable
  simp (disch := omega) only [i_ltl, i_ler, i_ltr, i_lel]
  by_cases q : i < 0
  · rw [if_pos q]
  · rw [if_neg q, if_pos (by omega)]
theorem tX12_inT {i : Int} {a b : Nat} (h : ((-2147483648 ≤ i ∧ i < 2147483648) ∧ (@OfNat.ofNat Int a _) < 2147483648 ∧ (@OfNat.ofNat Int b _) < 2147483648) ∧ (@OfNat.ofNat Int a _) ≤ i ∧ i ≤ (@OfNat.ofNat Int b _)) : fX12_in (Int32.ofInt i) (no_index (@OfNat.ofNat Int32 a _)) (no_index (@OfNat.ofNat Int32 b _)) = 1 := by
  have ha := lpos a
  have hb := lpos b
  unfold fX12_in
  rw [if_neg (by rw [i_ltl (by omega)]; omega), if_neg (by rw [i_ltr (by omega)]; omega)]
theorem tX12_inF {i : Int} {a b : Nat} (h : ((-2147483648 ≤ i ∧ i < 2147483648) ∧ (@OfNat.ofNat Int a _) < 2147483648 ∧ (@OfNat.ofNat Int b _) < 2147483648) ∧ ¬ ((@OfNat.ofNat Int a _) ≤ i ∧ i ≤ (@OfNat.ofNat Int b _))) : fX12_in (Int32.ofInt i) (no_index (@OfNat.ofNat Int32 a _)) (no_index (@OfNat.ofNat Int32 b _)) = 0 := by
  have ha := lpos a
  have hb := lpos b
  unfold fX12_in
  by_cases q : i < (@OfNat.ofNat Int a _)
  · rw [if_pos (by rw [i_ltl (by omega)]; exact q)]
  · rw [if_neg (by rw [i_ltl (by omega)]; exact q), if_pos (by rw [i_ltr (by omega)]; omega)]
theorem tX12_innT {i : Int} {a b : Nat} (h : ((-2147483648 ≤ i ∧ i < 2147483648) ∧ (@OfNat.ofNat Int a _) < 2147483648 ∧ (@OfNat.ofNat Int b _) < 2147483648) ∧ -(@OfNat.ofNat Int a _) ≤ i ∧ i ≤ (@OfNat.ofNat Int b _)) : fX12_in (Int32.ofInt i) (-(no_index (@OfNat.ofNat Int32 a _))) (no_index (@OfNat.ofNat Int32 b _)) = 1 := by
  have ha := lpos a
  have hb := lpos b
  unfold fX12_in
  rw [if_neg (by rw [i_ltn (by omega)]; omega), if_neg (by rw [i_ltr (by omega)]; omega)]
theorem tX12_innF {i : Int} {a b : Nat} (h : ((-2147483648 ≤ i ∧ i < 2147483648) ∧ (@OfNat.ofNat Int a _) < 2147483648 ∧ (@OfNat.ofNat Int b _) < 2147483648) ∧ ¬ (-(@OfNat.ofNat Int a _) ≤ i ∧ i ≤ (@OfNat.ofNat Int b _))) : fX12_in (Int32.ofInt i) (-(no_index (@OfNat.ofNat Int32 a _))) (no_index (@OfNat.ofNat Int32 b _)) = 0 := by
  have ha := lpos a
  have hb := lpos b
  unfold fX12_in
  by_cases q : i < -(@OfNat.ofNat Int a _)
  · rw [if_pos (by rw [i_ltn (by omega)]; exact q)]
  · rw [if_neg (by rw [i_ltn (by omega)]; exact q), if_pos (by rw [i_ltr (by omega)]; omega)]
theorem tX12_ingT {i j : Int} {a : Nat} (h : ((-2147483648 ≤ i ∧ i < 2147483648) ∧ (-2147483648 ≤ j ∧ j < 2147483648) ∧ (@OfNat.ofNat Int a _) < 2147483648) ∧ (@OfNat.ofNat Int a _) ≤ i ∧ i ≤ j) : fX12_in (Int32.ofInt i) (no_index (@OfNat.ofNat Int32 a _)) (Int32.ofInt j) = 1 := by
  have ha := lpos a
  unfold fX12_in
  rw [if_neg (by rw [i_ltl (by omega)]; omega), if_neg (by rw [i_lt (by omega) (by omega)]; omega)]
theorem tX12_ingF {i j : Int} {a : Nat} (h : ((-2147483648 ≤ i ∧ i < 2147483648) ∧ (-2147483648 ≤ j ∧ j < 2147483648) ∧ (@OfNat.ofNat Int a _) < 2147483648) ∧ ¬ ((@OfNat.ofNat Int a _) ≤ i ∧ i ≤ j)) : fX12_in (Int32.ofInt i) (no_index (@OfNat.ofNat Int32 a _)) (Int32.ofInt j) = 0 := by
  have ha := lpos a
  unfold fX12_in
  by_cases q : i < (@OfNat.ofNat Int a _)
  · rw [if_pos (by rw [i_ltl (by omega)]; exact q)]
  · rw [if_neg (by rw [i_ltl (by omega)]; exact q), if_pos (by rw [i_lt (by omega) (by omega)]; omega)]
theorem tX12_isStageT {i j : Int} (h : 0 ≤ i ∧ i ≤ 1 ∧ 0 ≤ j ∧ j ≤ 3) : fX12_isStage (Int32.ofInt i) (Int32.ofInt j) = 1 := by
  unfold fX12_isStage
  rw [if_neg (by rw [tX12_inT (by omega)]; decide), if_neg (by rw [tX12_inT (by omega)]; decide)]
theorem tX12_isStageF {i j : Int} (h : (-2147483648 ≤ i ∧ i < 2147483648) ∧ (-2147483648 ≤ j ∧ j < 2147483648) ∧ ¬ (0 ≤ i ∧ i ≤ 1 ∧ 0 ≤ j ∧ j ≤ 3)) : fX12_isStage (Int32.ofInt i) (Int32.ofInt j) = 0 := by
  unfold fX12_isStage
  by_cases q : 0 ≤ i ∧ i ≤ 1
  · rw [if_neg (by rw [tX12_inT (by omega)]; decide), if_pos (by rw [tX12_inF (by omega)])]
  · rw [if_pos (by rw [tX12_inF (by omega)])]
theorem tX1_isByteT {i j : Int} (h : 0 ≤ i ∧ i ≤ 19 ∧ 0 ≤ j ∧ j ≤ 63) : fX1_isByte (Int32.ofInt i) (Int32.ofInt j) = 1 := by
  unfold fX1_isByte
  simp (disch := omega) only [i_ltl, i_ler]
  rw [if_neg (by omega), if_neg (by omega), if_neg (by omega), if_neg (by omega)]
theorem tX1_isByteF {i j : Int} (h : (-2147483648 ≤ i ∧ i < 2147483648) ∧ (-2147483648 ≤ j ∧ j < 2147483648) ∧ ¬ (0 ≤ i ∧ i ≤ 19 ∧ 0 ≤ j ∧ j ≤ 63)) : fX1_isByte (Int32.ofInt i) (Int32.ofInt j) = 0 := by
  unfold fX1_isByte
  simp (disch := omega) only [i_ltl, i_ler]
  by_cases q1 : i < 0
  · rw [if_pos q1]
  · by_cases q2 : 20 ≤ i
    · rw [if_neg q1, if_pos q2]
    · by_cases q3 : j < 0
      · rw [if_neg q1, if_neg q2, if_pos q3]
      · rw [if_neg q1, if_neg q2, if_neg q3, if_pos (by omega)]
