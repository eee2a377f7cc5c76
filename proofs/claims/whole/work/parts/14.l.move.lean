/-! ===== moves of cells and places ===== -/
def sft (C : Nat → Int64) (a b n : Nat) : Nat → Int64 := fun q => if b ≤ q ∧ q < b + n then C (a + (q - b)) else C q
def sfb (C : Nat → Int64) (a b n k : Nat) : Nat → Int64 := fun q => if b + (n - k) ≤ q ∧ q < b + n then C (a + (q - b)) else C q
theorem sft_0 {C : Nat → Int64} {a b : Nat} : sft C a b 0 = C := by
  funext q
  unfold sft
  rw [if_neg (by omega)]
theorem sfb_0 {C : Nat → Int64} {a b n : Nat} : sfb C a b n 0 = C := by
  funext q
  unfold sfb
  rw [if_neg (by omega)]
theorem sfb_n {C : Nat → Int64} {a b n : Nat} : sfb C a b n n = sft C a b n := by
  funext q
  unfold sfb sft
  rw [Nat.sub_self, Nat.add_zero]
theorem sft_s {C : Nat → Int64} {a b k : Nat} : u1 (sft C a b k) (b + k) (C (a + k)) = sft C a b (k + 1) := by
  funext q
  unfold u1 sft
  by_cases h : q = b + k
  · subst h
    rw [if_pos rfl, if_pos (by omega), show b + k - b = k by omega]
  · rw [if_neg h]
    by_cases h2 : b ≤ q ∧ q < b + k
    · rw [if_pos h2, if_pos (by omega)]
    · rw [if_neg h2, if_neg (by omega)]
theorem sfb_s {C : Nat → Int64} {a b n k : Nat} (h : k < n) : u1 (sfb C a b n k) (b + (n - 1 - k)) (C (a + (n - 1 - k))) = sfb C a b n (k + 1) := by
  funext q
  unfold u1 sfb
  by_cases h1 : q = b + (n - 1 - k)
  · subst h1
    rw [if_pos rfl, if_pos (by omega), show b + (n - 1 - k) - b = n - 1 - k by omega]
  · rw [if_neg h1]
    by_cases h2 : b + (n - k) ≤ q ∧ q < b + n
    · rw [if_pos h2, if_pos (by omega)]
    · rw [if_neg h2, if_neg (by omega)]
theorem sft_r {C : Nat → Int64} {a b k z : Nat} (hk : k < z) (d : b ≤ a ∨ a + z ≤ b) : sft C a b k (a + k) = C (a + k) := by
  unfold sft
  rw [if_neg (by omega)]
theorem sfb_r {C : Nat → Int64} {a b k z : Nat} (hk : k < z) (d : a ≤ b ∨ b + z ≤ a) : sfb C a b z k (a + (z - 1 - k)) = C (a + (z - 1 - k)) := by
  unfold sfb
  rw [if_neg (by omega)]
theorem TSg.cC {G : Nat → Nat → Nat} {C C' : Nat → Int64} {N : Nat → Nat → Int32} (h : TSg G C N) (h' : ∀ k, G 10 1 ≤ k → C' k = 0) (hx : ∀ t : Nat, 1 ≤ t → t ≤ G 10 0 → G 1 t = 4 ∨ G 1 t = 6 → ∀ k : Nat, k < G 2 t → Int32.toInt64 (Int64.toInt32 (C' (G 3 t + k))) = C' (G 3 t + k)) : TSg G C' N := ⟨h.1, h.2.1, h.2.2.1, h.2.2.2.1, h.2.2.2.2.1, h', h.2.2.2.2.2.2.1, hx⟩
/-- cells of x go to cells of y, in whatever order -/
theorem TSg.mvA {G : Nat → Nat → Nat} {C C' : Nat → Int64} {N : Nat → Nat → Int32} {x y i j z : Nat} (h : TSg G C N) (x1 : 1 ≤ x) (x2 : x ≤ G 10 0) (y1 : 1 ≤ y) (y2 : y ≤ G 10 0) (zx : i + z ≤ nC (G 1 x) (G 2 x)) (zy : j + z ≤ nC (G 1 y) (G 2 y)) (fxy : G 1 y = 4 ∨ G 1 y = 6 → G 1 x = G 1 y) (hC : ∀ q, C' q = C q ∨ (G 3 y + j ≤ q ∧ q < G 3 y + j + z ∧ C' q = C (G 3 x + i + (q - (G 3 y + j))))) : TSg G C' N := by
  refine h.cC (fun k hk => ?_) (fun t t1 t2 ht k hk => ?_)
  · rcases hC k with e | ⟨e1, e2, -⟩
    · rw [e]; exact h.2.2.2.2.2.1 k hk
    · have qy := (cC_of (c := 0) (show j + (k - (G 3 y + j)) < nC (G 1 y) (G 2 y) by omega)).2
      have := (h.2.2.1 y y1 y2).2.2.2.2.2.2.2.1 qy
      omega
  · rcases hC (G 3 t + k) with e | ⟨e1, e2, e3⟩
    · rw [e]; exact h.2.2.2.2.2.2.2 t t1 t2 ht k hk
    · have nt : nC (G 1 t) (G 2 t) = G 2 t := if_pos (by omega)
      have r : y = t := by
        by_cases r : y = t
        · exact r
        · exact absurd (show G 3 t + k = G 3 y + (G 3 t + k - G 3 y) by omega) (h.cells y1 y2 t1 t2 (by omega) (by omega) r)
      subst r
      have f := fxy ht
      have nx : nC (G 1 x) (G 2 x) = G 2 x := if_pos (by omega)
      rw [e3, show G 3 x + i + (G 3 y + k - (G 3 y + j)) = G 3 x + (i + (k - j)) by omega]
      exact h.2.2.2.2.2.2.2 x x1 x2 (by omega) (i + (k - j)) (by omega)
theorem TSg.mvS {G : Nat → Nat → Nat} {C : Nat → Int64} {N : Nat → Nat → Int32} {x y i j z : Nat} (h : TSg G C N) (x1 : 1 ≤ x) (x2 : x ≤ G 10 0) (y1 : 1 ≤ y) (y2 : y ≤ G 10 0) (zx : i + z ≤ nC (G 1 x) (G 2 x)) (zy : j + z ≤ nC (G 1 y) (G 2 y)) (fxy : G 1 y = 4 ∨ G 1 y = 6 → G 1 x = G 1 y) : TSg G (sft C (G 3 x + i) (G 3 y + j) z) N := h.mvA x1 x2 y1 y2 zx zy fxy (fun q => by
  unfold sft
  by_cases c : G 3 y + j ≤ q ∧ q < G 3 y + j + z
  · rw [if_pos c]; exact Or.inr ⟨c.1, c.2, rfl⟩
  · rw [if_neg c]; exact Or.inl rfl)
theorem TSg.mvB {G : Nat → Nat → Nat} {C : Nat → Int64} {N : Nat → Nat → Int32} {x y i j z k : Nat} (h : TSg G C N) (x1 : 1 ≤ x) (x2 : x ≤ G 10 0) (y1 : 1 ≤ y) (y2 : y ≤ G 10 0) (zx : i + z ≤ nC (G 1 x) (G 2 x)) (zy : j + z ≤ nC (G 1 y) (G 2 y)) (fxy : G 1 y = 4 ∨ G 1 y = 6 → G 1 x = G 1 y) : TSg G (sfb C (G 3 x + i) (G 3 y + j) z k) N := h.mvA x1 x2 y1 y2 zx zy fxy (fun q => by
  unfold sfb
  by_cases c : G 3 y + j + (z - k) ≤ q ∧ q < G 3 y + j + z
  · rw [if_pos c]; exact Or.inr ⟨by omega, c.2, rfl⟩
  · rw [if_neg c]; exact Or.inl rfl)
theorem cth_c {G : Nat → Nat → Nat} {C : Nat → Int64} {N : Nat → Nat → Int32} {σ : Shp} {I : Nat → Nat → Int32} {J : Nat → Nat → Int64} {R : Nat → Nat → Option Nat} (hc : TCl G C N σ I J R) {t : Nat} (t1 : 1 ≤ t) (t2 : t ≤ G 10 0) (q : G 1 t ≤ 7 ∨ G 1 t = 17) : kdx σ (G 0 t) = 11 ∧ R (G 0 t) 1 = some (G 0 t + 1) ∧ kdx σ (G 0 t + 1) = 21 ∧ lnx σ (G 0 t + 1) = nC (G 1 t) (G 2 t) ∧ (∀ k, k < nC (G 1 t) (G 2 t) → J (G 0 t + 1) k = C (G 3 t + k)) ∧ I (G 0 t) 0 = Int32.ofInt (G 1 t) := by
  obtain ⟨⟨a1, a2, a3, a4, a5, a6, a7⟩, ⟨b1, -⟩, c, -⟩ := hc.2.2.1 t t1 t2
  have ep : cC (G 1 t) (G 0 t) = G 0 t + 1 := if_pos q
  unfold TC at c
  rw [ep] at a2 a4 a6 c
  exact ⟨a1, a2, a4, a6, c, b1⟩
theorem nC_40 {G : Nat → Nat → Nat} {C : Nat → Int64} {N : Nat → Nat → Int32} (hg : TSg G C N) {t : Nat} (t1 : 1 ≤ t) (t2 : t ≤ G 10 0) : nC (G 1 t) (G 2 t) ≤ 40 := by
  have := (hg.2.2.1 t t1 t2).2.2.2.1
  unfold nC
  split
  · omega
  · split <;> omega
/-- one turn of moveCells -/
theorem mvC_1 {G : Nat → Nat → Nat} {C : Nat → Int64} {N : Nat → Nat → Int32} {σ : Shp} {I : Nat → Nat → Int32} {J : Nat → Nat → Int64} {R : Nat → Nat → Option Nat} {q : (Nat → Nat → Int64) → Option Nat → Int32 → Option Nat → Int32 → Int32 → Int32 → Option (Nat → Nat → Int64)} {x y i j at' : Nat} {x4 : Int32} {k : Nat} (hg : TSg G C N) (hc : TCl G C N σ I J R) (x1 : 1 ≤ x) (x2 : x ≤ G 10 0) (y1 : 1 ≤ y) (y2 : y ≤ G 10 0) (zx : i + at' < nC (G 1 x) (G 2 x)) (zy : j + at' < nC (G 1 y) (G 2 y)) (hk : k < 1000) : gX11_moveCells_b56 q σ R J (some (G 0 x)) (Int32.ofInt i) (some (G 0 y)) (Int32.ofInt j) x4 (Int32.ofInt k) (Int32.ofInt at') = q (u2 J (G 0 y + 1) (j + at') (C (G 3 x + (i + at')))) (some (G 0 x)) (Int32.ofInt i) (some (G 0 y)) (Int32.ofInt j) x4 (Int32.ofInt ((k + 1 : Nat) : Int)) := by
  obtain ⟨p1, p2, p3, p4, p5, -⟩ := cth_c hc x1 x2 (cC_of (c := 0) zx).2
  obtain ⟨q1, q2, q3, q4, q5, -⟩ := cth_c hc y1 y2 (cC_of (c := 0) zy).2
  have b1 := nC_40 hg x1 x2
  have b2 := nC_40 hg y1 y2
  have e1 : ((i : Int) + (at' : Int)).toNat = i + at' := by omega
  have e2 : ((j : Int) + (at' : Int)).toNat = j + at' := by omega
  have e3 := p5 _ zx
  have ek : ((k : Int) + 1) = ((k + 1 : Nat) : Int) := by omega
  unfold gX11_moveCells_b56
  simp (disch := omega) only [fail_r, no_r, nob_r, fI_o, Nat.reduceLeDiff, ↓reduceIte, not_true_eq_false, not_false_eq_true, false_imp_iff, true_imp_iff, and_true, true_and, and_self, implies_true, false_or, or_false, true_or, or_true, d10, d01, d00, d11, g_tn, Tot_some, Tot_none, Tot_ite, Tot_bind, ob_some, onl_n, onl_s, nat32, Int.toNat_natCast, i_add, i_sub, i_mul, i_addl, i_addr, i_subl, i_subr, i_mulr, i_addn, i_gd, i_tn, i_w, i_ltlT, i_ltlF, i_ltrT, i_ltrF, i_lelT, i_lelF, i_lerT, i_lerF, i_eqlT, i_eqlF, i_eqrT, i_eqrF, i_ltnT, i_ltnF, i_lenT, i_lenF, i_eqnT, i_eqnF, i_ltT, i_ltF, i_leT, i_leF, i_eqT, i_eqF, j_ltlT, j_ltlF, j_ltrT, j_ltrF, j_lelT, j_lelF, j_lerT, j_lerF, j_eqlT, j_eqlF, j_ltT, j_ltF, j_leT, j_leF, j_eqT, j_eqF, i_mull, l_tn, l_lt0, l_ne0, nleF, tX11_isStockT, tX11_isStockF, tX11_isBinT, tX11_isBinF, tX11_isPlanT, tX11_isPlanF, tX11_isValveT, tX11_isValveF, tX11_isLaneT, tX11_isLaneF, tX11_isGridFormT, tX11_isGridFormF, tX11_isFormT, tX11_isFormF, tX11_isTrayFormT, tX11_isTrayFormF, tX11_isPlacesFormT, tX11_isPlacesFormF, tX11_isTableT, tX11_isTableF, tX11_isProbeT, tX11_isProbeF, tX11_isHouseT, tX11_isHouseF, tX11_isPestT, tX11_isPestF, tX11_isStageT, tX11_isStageF, tX11_isPartT, tX11_isPartF, tX12_isBinT, tX12_isBinF, tX12_isTableT, tX12_isTableF, tX12_inT, tX12_inF, tX12_innT, tX12_innF, tX12_ingT, tX12_ingF, tX12_isStageT, tX12_isStageF, tX1_isByteT, tX1_isByteF, p1, p2, p3, p4, q1, q2, q3, q4, e1, e2, e3, ek]
theorem mvC_f {G : Nat → Nat → Nat} {C : Nat → Int64} {N : Nat → Nat → Int32} {σ : Shp} {I : Nat → Nat → Int32} {R : Nat → Nat → Option Nat} {x y z i j : Nat} (hg : TSg G C N) (x1 : 1 ≤ x) (x2 : x ≤ G 10 0) (y1 : 1 ≤ y) (y2 : y ≤ G 10 0) (zx : i + z ≤ nC (G 1 x) (G 2 x)) (zy : j + z ≤ nC (G 1 y) (G 2 y)) (fxy : G 1 y = 4 ∨ G 1 y = 6 → G 1 x = G 1 y) (d : j ≤ i) (dis : G 3 y + j ≤ G 3 x + i ∨ G 3 x + i + z ≤ G 3 y + j) (hb : 202 ≤ G 0 y ∧ G 0 y + 1 < 1000000) : ∀ (w k n : Nat) (J : Nat → Nat → Int64), w < n → k + w = z → TCl G (sft C (G 3 x + i) (G 3 y + j) k) N σ I J R → ∃ J', gX11_moveCells_l32 σ R n J (some (G 0 x)) (Int32.ofInt i) (some (G 0 y)) (Int32.ofInt j) (Int32.ofInt z) (Int32.ofInt k) = some J' ∧ TCl G (sft C (G 3 x + i) (G 3 y + j) z) N σ I J' R ∧ Ag [(202, 1000000)] J J' := by
  have b1 := nC_40 hg x1 x2
  have b2 := nC_40 hg y1 y2
  intro w
  induction w with
  | zero =>
    intro k n J hn hk hc
    obtain ⟨n, rfl⟩ : ∃ m, n = m + 1 := ⟨n - 1, by omega⟩
    obtain rfl : k = z := by omega
    refine ⟨J, ?_, hc, Ag.rf⟩
    rw [gX11_moveCells_l32, if_pos (by rw [i_le (by omega) (by omega)]; omega)]
  | succ w ih =>
    intro k n J hn hk hc
    obtain ⟨n, rfl⟩ : ∃ m, n = m + 1 := ⟨n - 1, by omega⟩
    have qx := (cC_of (c := 0) (show i + k < nC (G 1 x) (G 2 x) by omega)).2
    have qy := (cC_of (c := 0) (show j + k < nC (G 1 y) (G 2 y) by omega)).2
    have s8 := (hg.2.2.1 y y1 y2).2.2.2.2.2.2.2.1 qy
    have hgk : TSg G (sft C (G 3 x + i) (G 3 y + j) k) N := hg.mvS x1 x2 y1 y2 (by omega) (by omega) fxy
    have st := mvC_1 (q := gX11_moveCells_l32 σ R n) (at' := k) (k := k) (x4 := Int32.ofInt z) hgk hc x1 x2 y1 y2 (show i + k < nC (G 1 x) (G 2 x) by omega) (show j + k < nC (G 1 y) (G 2 y) by omega) (by omega)
    have e : sft C (G 3 x + i) (G 3 y + j) k (G 3 x + (i + k)) = C (G 3 x + i + k) := by
      rw [← Nat.add_assoc]
      exact sft_r (z := z) (by omega) dis
    rw [e] at st
    have k2 := TCl.setC (k := j + k) (v := C (G 3 x + i + k)) hgk hc y1 y2 (by omega)
    rw [← Nat.add_assoc, sft_s] at k2
    obtain ⟨J', r1, r2, r3⟩ := ih (k + 1) n _ (by omega) (by omega) k2
    refine ⟨J', ?_, r2, Ag.tr (Ag.st Ag.rf (far_in (by omega) (by omega) rfl)) r3⟩
    rw [gX11_moveCells_l32, if_neg (by rw [i_le (by omega) (by omega)]; omega), if_pos (by rw [i_le (by omega) (by omega)]; omega), st]
    exact r1
theorem mvC_b {G : Nat → Nat → Nat} {C : Nat → Int64} {N : Nat → Nat → Int32} {σ : Shp} {I : Nat → Nat → Int32} {R : Nat → Nat → Option Nat} {x y z i j : Nat} (hg : TSg G C N) (x1 : 1 ≤ x) (x2 : x ≤ G 10 0) (y1 : 1 ≤ y) (y2 : y ≤ G 10 0) (zx : i + z ≤ nC (G 1 x) (G 2 x)) (zy : j + z ≤ nC (G 1 y) (G 2 y)) (fxy : G 1 y = 4 ∨ G 1 y = 6 → G 1 x = G 1 y) (d : i < j) (dis : G 3 x + i ≤ G 3 y + j ∨ G 3 y + j + z ≤ G 3 x + i) (hb : 202 ≤ G 0 y ∧ G 0 y + 1 < 1000000) : ∀ (w k n : Nat) (J : Nat → Nat → Int64), w < n → k + w = z → TCl G (sfb C (G 3 x + i) (G 3 y + j) z k) N σ I J R → ∃ J', gX11_moveCells_l32 σ R n J (some (G 0 x)) (Int32.ofInt i) (some (G 0 y)) (Int32.ofInt j) (Int32.ofInt z) (Int32.ofInt k) = some J' ∧ TCl G (sfb C (G 3 x + i) (G 3 y + j) z z) N σ I J' R ∧ Ag [(202, 1000000)] J J' := by
  have b1 := nC_40 hg x1 x2
  have b2 := nC_40 hg y1 y2
  intro w
  induction w with
  | zero =>
    intro k n J hn hk hc
    obtain ⟨n, rfl⟩ : ∃ m, n = m + 1 := ⟨n - 1, by omega⟩
    obtain rfl : k = z := by omega
    refine ⟨J, ?_, hc, Ag.rf⟩
    rw [gX11_moveCells_l32, if_pos (by rw [i_le (by omega) (by omega)]; omega)]
  | succ w ih =>
    intro k n J hn hk hc
    obtain ⟨n, rfl⟩ : ∃ m, n = m + 1 := ⟨n - 1, by omega⟩
    have qy := (cC_of (c := 0) (show j + (z - 1 - k) < nC (G 1 y) (G 2 y) by omega)).2
    have s8 := (hg.2.2.1 y y1 y2).2.2.2.2.2.2.2.1 qy
    have hgk : TSg G (sfb C (G 3 x + i) (G 3 y + j) z k) N := hg.mvB x1 x2 y1 y2 zx zy fxy
    have st := mvC_1 (q := gX11_moveCells_l32 σ R n) (at' := z - 1 - k) (k := k) (x4 := Int32.ofInt z) hgk hc x1 x2 y1 y2 (show i + (z - 1 - k) < nC (G 1 x) (G 2 x) by omega) (show j + (z - 1 - k) < nC (G 1 y) (G 2 y) by omega) (by omega)
    have e : sfb C (G 3 x + i) (G 3 y + j) z k (G 3 x + (i + (z - 1 - k))) = C (G 3 x + i + (z - 1 - k)) := by
      rw [← Nat.add_assoc]
      exact sfb_r (by omega) dis
    rw [e] at st
    have k2 := TCl.setC (k := j + (z - 1 - k)) (v := C (G 3 x + i + (z - 1 - k))) hgk hc y1 y2 (by omega)
    rw [← Nat.add_assoc, sfb_s (by omega)] at k2
    obtain ⟨J', r1, r2, r3⟩ := ih (k + 1) n _ (by omega) (by omega) k2
    refine ⟨J', ?_, r2, Ag.tr (Ag.st Ag.rf (far_in (by omega) (by omega) rfl)) r3⟩
    have ei : (z : Int) - 1 - (k : Int) = ((z - 1 - k : Nat) : Int) := by omega
    rw [gX11_moveCells_l32, if_neg (by rw [i_le (by omega) (by omega)]; omega), if_neg (by rw [i_le (by omega) (by omega)]; omega), i_subl, i_sub, ei, st]
    exact r1
theorem span_r {L i n : Nat} (hL : L ≤ 1000) (h : i + n ≤ L) : fX11_spanFits (Int32.ofInt L) (Int32.ofInt i) (Int32.ofInt n) = 1 := by
  unfold fX11_spanFits
  simp (disch := omega) only [fail_r, no_r, nob_r, fI_o, Nat.reduceLeDiff, ↓reduceIte, not_true_eq_false, not_false_eq_true, false_imp_iff, true_imp_iff, and_true, true_and, and_self, implies_true, false_or, or_false, true_or, or_true, d10, d01, d00, d11, g_tn, Tot_some, Tot_none, Tot_ite, Tot_bind, ob_some, onl_n, onl_s, nat32, Int.toNat_natCast, i_add, i_sub, i_mul, i_addl, i_addr, i_subl, i_subr, i_mulr, i_addn, i_gd, i_tn, i_w, i_ltlT, i_ltlF, i_ltrT, i_ltrF, i_lelT, i_lelF, i_lerT, i_lerF, i_eqlT, i_eqlF, i_eqrT, i_eqrF, i_ltnT, i_ltnF, i_lenT, i_lenF, i_eqnT, i_eqnF, i_ltT, i_ltF, i_leT, i_leF, i_eqT, i_eqF, j_ltlT, j_ltlF, j_ltrT, j_ltrF, j_lelT, j_lelF, j_lerT, j_lerF, j_eqlT, j_eqlF, j_ltT, j_ltF, j_leT, j_leF, j_eqT, j_eqF, i_mull, l_tn, l_lt0, l_ne0, nleF, tX11_isStockT, tX11_isStockF, tX11_isBinT, tX11_isBinF, tX11_isPlanT, tX11_isPlanF, tX11_isValveT, tX11_isValveF, tX11_isLaneT, tX11_isLaneF, tX11_isGridFormT, tX11_isGridFormF, tX11_isFormT, tX11_isFormF, tX11_isTrayFormT, tX11_isTrayFormF, tX11_isPlacesFormT, tX11_isPlacesFormF, tX11_isTableT, tX11_isTableF, tX11_isProbeT, tX11_isProbeF, tX11_isHouseT, tX11_isHouseF, tX11_isPestT, tX11_isPestF, tX11_isStageT, tX11_isStageF, tX11_isPartT, tX11_isPartF, tX12_isBinT, tX12_isBinF, tX12_isTableT, tX12_isTableF, tX12_inT, tX12_inF, tX12_innT, tX12_innF, tX12_ingT, tX12_ingF, tX12_isStageT, tX12_isStageF, tX1_isByteT, tX1_isByteF]
/-- moveCells as a whole -/
theorem mvC {G : Nat → Nat → Nat} {C : Nat → Int64} {N : Nat → Nat → Int32} {σ : Shp} {I : Nat → Nat → Int32} {J : Nat → Nat → Int64} {R : Nat → Nat → Option Nat} {x y z i j : Nat} (hg : TSg G C N) (hc : TCl G C N σ I J R) (hn : nxx σ ≤ 900000) (x1 : 1 ≤ x) (x2 : x ≤ G 10 0) (y1 : 1 ≤ y) (y2 : y ≤ G 10 0) (fx : G 1 x ≤ 7 ∨ G 1 x = 17) (fy : G 1 y ≤ 7 ∨ G 1 y = 17) (zx : i + z ≤ nC (G 1 x) (G 2 x)) (zy : j + z ≤ nC (G 1 y) (G 2 y)) (fxy : G 1 y = 4 ∨ G 1 y = 6 → G 1 x = G 1 y) : ∃ J', gX11_moveCells σ J R (some (G 0 x)) (Int32.ofInt i) (some (G 0 y)) (Int32.ofInt j) (Int32.ofInt z) = some J' ∧ TSg G (sft C (G 3 x + i) (G 3 y + j) z) N ∧ TCl G (sft C (G 3 x + i) (G 3 y + j) z) N σ I J' R ∧ Ag [(202, 1000000)] J J' := by
  have b1 := nC_40 hg x1 x2
  have b2 := nC_40 hg y1 y2
  obtain ⟨p1, p2, p3, p4, p5, -⟩ := cth_c hc x1 x2 fx
  obtain ⟨q1, q2, q3, q4, q5, -⟩ := cth_c hc y1 y2 fy
  have sx := (hg.2.2.1 x x1 x2).2.2.2.2.2.2.2.1 fx
  have sy := (hg.2.2.1 y y1 y2).2.2.2.2.2.2.2.1 fy
  have w1 := span_r (L := nC (G 1 x) (G 2 x)) (i := i) (n := z) (by omega) zx
  have w2 := span_r (L := nC (G 1 y) (G 2 y)) (i := j) (n := z) (by omega) zy
  have hb := hc.2.2.2.1.1 y y1 y2
  have w3 := cW_of fy
  have od : x = y ∨ G 3 x + nC (G 1 x) (G 2 x) ≤ G 3 y ∨ G 3 y + nC (G 1 y) (G 2 y) ≤ G 3 x := by
    rcases Nat.lt_trichotomy x y with h | h | h
    · exact Or.inr (Or.inl ((hg.2.2.2.1 x y x1 h y2).1 fx fy))
    · exact Or.inl h
    · exact Or.inr (Or.inr ((hg.2.2.2.1 y x y1 h x2).1 fy fx))
  have u : gX11_moveCells σ J R (some (G 0 x)) (Int32.ofInt i) (some (G 0 y)) (Int32.ofInt j) (Int32.ofInt z) = gX11_moveCells_l32 σ R FUx J (some (G 0 x)) (Int32.ofInt i) (some (G 0 y)) (Int32.ofInt j) (Int32.ofInt z) (Int32.ofInt ((0 : Nat) : Int)) := by
    unfold gX11_moveCells
    simp (disch := omega) only [fail_r, no_r, nob_r, fI_o, Nat.reduceLeDiff, ↓reduceIte, not_true_eq_false, not_false_eq_true, false_imp_iff, true_imp_iff, and_true, true_and, and_self, implies_true, false_or, or_false, true_or, or_true, d10, d01, d00, d11, g_tn, Tot_some, Tot_none, Tot_ite, Tot_bind, ob_some, onl_n, onl_s, nat32, Int.toNat_natCast, i_add, i_sub, i_mul, i_addl, i_addr, i_subl, i_subr, i_mulr, i_addn, i_gd, i_tn, i_w, i_ltlT, i_ltlF, i_ltrT, i_ltrF, i_lelT, i_lelF, i_lerT, i_lerF, i_eqlT, i_eqlF, i_eqrT, i_eqrF, i_ltnT, i_ltnF, i_lenT, i_lenF, i_eqnT, i_eqnF, i_ltT, i_ltF, i_leT, i_leF, i_eqT, i_eqF, j_ltlT, j_ltlF, j_ltrT, j_ltrF, j_lelT, j_lelF, j_lerT, j_lerF, j_eqlT, j_eqlF, j_ltT, j_ltF, j_leT, j_leF, j_eqT, j_eqF, i_mull, l_tn, l_lt0, l_ne0, nleF, tX11_isStockT, tX11_isStockF, tX11_isBinT, tX11_isBinF, tX11_isPlanT, tX11_isPlanF, tX11_isValveT, tX11_isValveF, tX11_isLaneT, tX11_isLaneF, tX11_isGridFormT, tX11_isGridFormF, tX11_isFormT, tX11_isFormF, tX11_isTrayFormT, tX11_isTrayFormF, tX11_isPlacesFormT, tX11_isPlacesFormF, tX11_isTableT, tX11_isTableF, tX11_isProbeT, tX11_isProbeF, tX11_isHouseT, tX11_isHouseF, tX11_isPestT, tX11_isPestF, tX11_isStageT, tX11_isStageF, tX11_isPartT, tX11_isPartF, tX12_isBinT, tX12_isBinF, tX12_isTableT, tX12_isTableF, tX12_inT, tX12_inF, tX12_innT, tX12_innF, tX12_ingT, tX12_ingF, tX12_isStageT, tX12_isStageF, tX1_isByteT, tX1_isByteF, p1, p2, p3, p4, q1, q2, q3, q4, w1, w2]
    rfl
  have hb' : 202 ≤ G 0 y ∧ G 0 y + 1 < 1000000 := by omega
  by_cases d : j ≤ i
  · have dis : G 3 y + j ≤ G 3 x + i ∨ G 3 x + i + z ≤ G 3 y + j := by
      rcases od with rfl | h | h <;> omega
    obtain ⟨J', r1, r2, r3⟩ := mvC_f hg x1 x2 y1 y2 zx zy fxy d dis hb' z 0 FUx J (by rw [FUx_eq]; omega) (by omega) (by rw [sft_0]; exact hc)
    exact ⟨J', by rw [u]; exact r1, hg.mvS x1 x2 y1 y2 zx zy fxy, r2, r3⟩
  · have dis : G 3 x + i ≤ G 3 y + j ∨ G 3 y + j + z ≤ G 3 x + i := by
      rcases od with rfl | h | h <;> omega
    obtain ⟨J', r1, r2, r3⟩ := mvC_b hg x1 x2 y1 y2 zx zy fxy (by omega) dis hb' z 0 FUx J (by rw [FUx_eq]; omega) (by omega) (by rw [sfb_0]; exact hc)
    rw [sfb_n] at r2
    exact ⟨J', by rw [u]; exact r1, hg.mvS x1 x2 y1 y2 zx zy fxy, r2, r3⟩
