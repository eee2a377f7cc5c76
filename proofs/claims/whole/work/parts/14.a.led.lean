/-! ===== walks along cards ===== -/
def cnt (N : Nat → Nat → Int32) (w : Int32) : Nat → Nat
  | 0 => 0
  | m + 1 => cnt N w m + (if N 8 (m + 1) = w then 0 else 1)
theorem cnt_out {N : Nat → Nat → Int32} {w : Int32} {x : Nat} : ∀ m : Nat, m < x → cnt (u2 N 8 x w) w m = cnt N w m := by
  intro m
  induction m with
  | zero => intro _; rfl
  | succ m ih =>
    intro h
    unfold cnt
    rw [ih (by omega), u2n (by omega)]
theorem cnt_in {N : Nat → Nat → Int32} {w : Int32} {x : Nat} (hx : 1 ≤ x) (hw : N 8 x ≠ w) : ∀ m : Nat, x ≤ m → cnt (u2 N 8 x w) w m + 1 = cnt N w m := by
  intro m
  induction m with
  | zero => intro _; omega
  | succ m ih =>
    intro h
    unfold cnt
    by_cases c : x = m + 1
    · subst c
      rw [cnt_out m (by omega), u2_self, if_pos rfl, if_neg hw]
    · have := ih (by omega)
      rw [u2n (by omega)]
      omega
theorem cnt_le {N : Nat → Nat → Int32} {w : Int32} : ∀ m : Nat, cnt N w m ≤ m := by
  intro m
  induction m with
  | zero => exact Nat.le_refl _
  | succ m ih =>
    unfold cnt
    split <;> omega
theorem TSg.seen {G : Nat → Nat → Nat} {C : Nat → Int64} {N : Nat → Nat → Int32} {w : Int32} (h : TSg G C N) {t : Nat} (t1 : 1 ≤ t) (t2 : t ≤ G 10 0) : TSg G C (u2 N 8 t w) := by
  obtain ⟨a, b, c, d, e, f, g⟩ := h
  refine ⟨a, b, c, d, fun u hu => ?_, f, g⟩
  rw [u2n (by omega), u2n (by omega), u2n (by omega), u2n (by omega)]
  exact e u hu
theorem TCl.seen {G : Nat → Nat → Nat} {C : Nat → Int64} {N : Nat → Nat → Int32} {σ : Shp} {I : Nat → Nat → Int32} {J : Nat → Nat → Int64} {R : Nat → Nat → Option Nat} {w : Int32} (h : TCl G C N σ I J R) {t : Nat} (t1 : 1 ≤ t) (t2 : t ≤ G 10 0) : TCl G C (u2 N 8 t w) σ (u2 I (G 0 t) 8 w) J R := by
  obtain ⟨h0, h1, h2, h3, h4⟩ := h
  have st := h3.1 t t1 t2
  have wt := cW_ge (G 1 t)
  refine ⟨?_, h1, fun u u1' u2' => ?_, h3, fun x hx1 hx2 => ?_⟩
  · rw [u2n (by omega)]; exact h0
  · obtain ⟨a, b, c, d, e⟩ := h2 u u1' u2'
    refine ⟨a, ?_, c, d, e⟩
    unfold TB at b ⊢
    by_cases q : u = t
    · subst q
      simp (disch := omega) only [u2n, u2s]
      exact ⟨b.1, b.2.1, b.2.2.1, b.2.2.2.1, b.2.2.2.2.1, b.2.2.2.2.2.1, trivial⟩
    · have ap := h3.apart t1 t2 u1' u2' (fun r => q r.symm)
      have wu := cW_ge (G 1 u)
      simp (disch := omega) only [u2n, u2s]
      exact b
  · obtain ⟨d1, d2⟩ := h4 x hx1 hx2
    refine ⟨d1, fun j => ?_⟩
    rw [u2n (by omega)]
    exact d2 j
theorem TMo.seen {G : Nat → Nat → Nat} {C : Nat → Int64} {N : Nat → Nat → Int32} {I : Nat → Nat → Int32} {J : Nat → Nat → Int64} {w : Int32} {t : Nat} (h : TMo G C N I J) : TMo G C (u2 N 8 t w) (u2 I 133 t w) J := by
  obtain ⟨a, b, c, d, e⟩ := h
  refine ⟨?_, fun x hx => ?_, fun u hu => ?_, d, fun k hk => ?_⟩
  · simp (disch := omega) only [u2n, u2s]; exact a
  · simp (disch := omega) only [u2n, u2s]; exact b x hx
  · have cc := c u hu
    unfold TMt at cc ⊢
    by_cases q : u = t
    · subst q
      simp (disch := omega) only [u2n, u2s]
      exact ⟨cc.1, cc.2.1, cc.2.2.1, cc.2.2.2.1, cc.2.2.2.2.1, cc.2.2.2.2.2.1, cc.2.2.2.2.2.2.1, cc.2.2.2.2.2.2.2.1, cc.2.2.2.2.2.2.2.2.1, cc.2.2.2.2.2.2.2.2.2.1, trivial⟩
    · simp (disch := omega) only [u2n, u2s]
      exact cc
  · simp (disch := omega) only [u2n, u2s]; exact e k hk
/-- the walk of the ghosts: marks, last, next, how many -/
def wk (G : Nat → Nat → Nat) (w : Int32) : Nat → (Nat → Nat → Int32) → Nat → Nat → Nat → (Nat → Nat → Int32) × Nat × Nat × Nat
  | 0, N, l, x, k => (N, l, x, k)
  | c + 1, N, l, x, k => if x = 0 ∨ N 8 x = w then (N, l, x, k) else wk G w c (u2 N 8 x w) x (G 5 x) (k + 1)
/-- the class's walk -/
theorem led_C {G : Nat → Nat → Nat} {C : Nat → Int64} {σ : Shp} {J : Nat → Nat → Int64} {R : Nat → Nat → Option Nat} {w x2 : Int32} (hn : 198 ≤ nxx σ ∧ nxx σ ≤ 900000) : ∀ (c : Nat) (N : Nat → Nat → Int32) (I : Nat → Nat → Int32) (n1 l x k : Nat), cnt N w (G 10 0) = c → c < n1 → k + c ≤ 5000 → TSg G C N → TCl G C N σ I J R → I 4 19 = w → x ≤ G 10 0 → (x ≠ 0 → G 1 x = 17) →
    ∃ I' : Nat → Nat → Int32, gX11_led_l69 σ R n1 I x2 (some (G 0 l)) (pn G x) (Int32.ofInt k) = gX11_led_b122 σ R I' x2 (some (G 0 (wk G w c N l x k).2.1)) (pn G (wk G w c N l x k).2.2.1) (Int32.ofInt (wk G w c N l x k).2.2.2) ∧ TSg G C (wk G w c N l x k).1 ∧ TCl G C (wk G w c N l x k).1 σ I' J R ∧ Ag [(202, 1000000)] I I' ∧ ((wk G w c N l x k).2.1 = l ∨ (1 ≤ (wk G w c N l x k).2.1 ∧ (wk G w c N l x k).2.1 ≤ G 10 0)) ∧ (wk G w c N l x k).2.2.1 ≤ G 10 0 ∧ (wk G w c N l x k).2.2.2 ≤ 5000 ∧ (∀ t, (wk G w c N l x k).1 8 t = N 8 t ∨ (wk G w c N l x k).1 8 t = w) := by
  intro c
  induction c with
  | zero =>
    intro N I n1 l x k hc h1 hk hg hC hw1 hx hf
    obtain ⟨n1, rfl⟩ : ∃ n', n1 = n' + 1 := ⟨n1 - 1, by omega⟩
    refine ⟨I, ?_, hg, hC, Ag.rf, Or.inl rfl, hx, by unfold wk; omega, fun _ => Or.inl rfl⟩
    unfold wk
    rw [gX11_led_l69]
    by_cases q : x = 0
    · subst q
      simp (disch := omega) only [fail_r, no_r, nob_r, fI_o, Nat.reduceLeDiff, ↓reduceIte, not_true_eq_false, not_false_eq_true, false_imp_iff, true_imp_iff, and_true, true_and, and_self, implies_true, false_or, or_false, true_or, or_true, d10, d01, d00, d11, g_tn, Tot_some, Tot_none, Tot_ite, Tot_bind, ob_some, onl_n, onl_s, nat32, Int.toNat_natCast, i_add, i_sub, i_mul, i_addl, i_addr, i_subl, i_subr, i_mulr, i_addn, i_gd, i_tn, i_w, i_ltlT, i_ltlF, i_ltrT, i_ltrF, i_lelT, i_lelF, i_lerT, i_lerF, i_eqlT, i_eqlF, i_eqrT, i_eqrF, i_ltnT, i_ltnF, i_lenT, i_lenF, i_eqnT, i_eqnF, i_ltT, i_ltF, i_leT, i_leF, i_eqT, i_eqF, j_ltlT, j_ltlF, j_ltrT, j_ltrF, j_lelT, j_lelF, j_lerT, j_lerF, j_eqlT, j_eqlF, j_ltT, j_ltF, j_leT, j_leF, j_eqT, j_eqF, i_mull, l_tn, l_lt0, l_ne0, nleF, tX11_isStockT, tX11_isStockF, tX11_isBinT, tX11_isBinF, tX11_isPlanT, tX11_isPlanF, tX11_isValveT, tX11_isValveF, tX11_isLaneT, tX11_isLaneF, tX11_isGridFormT, tX11_isGridFormF, tX11_isFormT, tX11_isFormF, tX11_isTrayFormT, tX11_isTrayFormF, tX11_isPlacesFormT, tX11_isPlacesFormF, tX11_isTableT, tX11_isTableF, tX11_isProbeT, tX11_isProbeF, tX11_isHouseT, tX11_isHouseF, tX11_isPestT, tX11_isPestF, tX11_isStageT, tX11_isStageF, tX11_isPartT, tX11_isPartF, tX12_isBinT, tX12_isBinF, tX12_isTableT, tX12_isTableF, tX12_inT, tX12_inF, tX12_innT, tX12_innF, tX12_ingT, tX12_ingF, tX12_isStageT, tX12_isStageF, tX1_isByteT, tX1_isByteF, pn_0]
    · have e : N 8 x = w := by
        apply Classical.byContradiction
        intro e
        have := cnt_in (by omega) e (G 10 0) hx
        omega
      obtain ⟨⟨a1, -⟩, b, -⟩ := hC.2.2.1 x (by omega) hx
      have b8 : I (G 0 x) 8 = I 4 19 := by rw [b.2.2.2.2.2.2, e, hw1]
      rw [pn_1 (by omega)]
      simp (disch := omega) only [fail_r, no_r, nob_r, fI_o, Nat.reduceLeDiff, ↓reduceIte, not_true_eq_false, not_false_eq_true, false_imp_iff, true_imp_iff, and_true, true_and, and_self, implies_true, false_or, or_false, true_or, or_true, d10, d01, d00, d11, g_tn, Tot_some, Tot_none, Tot_ite, Tot_bind, ob_some, onl_n, onl_s, nat32, Int.toNat_natCast, i_add, i_sub, i_mul, i_addl, i_addr, i_subl, i_subr, i_mulr, i_addn, i_gd, i_tn, i_w, i_ltlT, i_ltlF, i_ltrT, i_ltrF, i_lelT, i_lelF, i_lerT, i_lerF, i_eqlT, i_eqlF, i_eqrT, i_eqrF, i_ltnT, i_ltnF, i_lenT, i_lenF, i_eqnT, i_eqnF, i_ltT, i_ltF, i_leT, i_leF, i_eqT, i_eqF, j_ltlT, j_ltlF, j_ltrT, j_ltrF, j_lelT, j_lelF, j_lerT, j_lerF, j_eqlT, j_eqlF, j_ltT, j_ltF, j_leT, j_leF, j_eqT, j_eqF, i_mull, l_tn, l_lt0, l_ne0, nleF, tX11_isStockT, tX11_isStockF, tX11_isBinT, tX11_isBinF, tX11_isPlanT, tX11_isPlanF, tX11_isValveT, tX11_isValveF, tX11_isLaneT, tX11_isLaneF, tX11_isGridFormT, tX11_isGridFormF, tX11_isFormT, tX11_isFormF, tX11_isTrayFormT, tX11_isTrayFormF, tX11_isPlacesFormT, tX11_isPlacesFormF, tX11_isTableT, tX11_isTableF, tX11_isProbeT, tX11_isProbeF, tX11_isHouseT, tX11_isHouseF, tX11_isPestT, tX11_isPestF, tX11_isStageT, tX11_isStageF, tX11_isPartT, tX11_isPartF, tX12_isBinT, tX12_isBinF, tX12_isTableT, tX12_isTableF, tX12_inT, tX12_inF, tX12_innT, tX12_innF, tX12_ingT, tX12_ingF, tX12_isStageT, tX12_isStageF, tX1_isByteT, tX1_isByteF, a1, eq_true b8]
  | succ c ih =>
    intro N I n1 l x k hc h1 hk hg hC hw1 hx hf
    obtain ⟨n1, rfl⟩ : ∃ n', n1 = n' + 1 := ⟨n1 - 1, by omega⟩
    by_cases q : x = 0
    · have ew : wk G w (c + 1) N l x k = (N, l, x, k) := if_pos (Or.inl q)
      rw [ew]
      subst q
      refine ⟨I, ?_, hg, hC, Ag.rf, Or.inl rfl, hx, by show k ≤ 5000; omega, fun _ => Or.inl rfl⟩
      rw [gX11_led_l69]
      simp (disch := omega) only [fail_r, no_r, nob_r, fI_o, Nat.reduceLeDiff, ↓reduceIte, not_true_eq_false, not_false_eq_true, false_imp_iff, true_imp_iff, and_true, true_and, and_self, implies_true, false_or, or_false, true_or, or_true, d10, d01, d00, d11, g_tn, Tot_some, Tot_none, Tot_ite, Tot_bind, ob_some, onl_n, onl_s, nat32, Int.toNat_natCast, i_add, i_sub, i_mul, i_addl, i_addr, i_subl, i_subr, i_mulr, i_addn, i_gd, i_tn, i_w, i_ltlT, i_ltlF, i_ltrT, i_ltrF, i_lelT, i_lelF, i_lerT, i_lerF, i_eqlT, i_eqlF, i_eqrT, i_eqrF, i_ltnT, i_ltnF, i_lenT, i_lenF, i_eqnT, i_eqnF, i_ltT, i_ltF, i_leT, i_leF, i_eqT, i_eqF, j_ltlT, j_ltlF, j_ltrT, j_ltrF, j_lelT, j_lelF, j_lerT, j_lerF, j_eqlT, j_eqlF, j_ltT, j_ltF, j_leT, j_leF, j_eqT, j_eqF, i_mull, l_tn, l_lt0, l_ne0, nleF, tX11_isStockT, tX11_isStockF, tX11_isBinT, tX11_isBinF, tX11_isPlanT, tX11_isPlanF, tX11_isValveT, tX11_isValveF, tX11_isLaneT, tX11_isLaneF, tX11_isGridFormT, tX11_isGridFormF, tX11_isFormT, tX11_isFormF, tX11_isTrayFormT, tX11_isTrayFormF, tX11_isPlacesFormT, tX11_isPlacesFormF, tX11_isTableT, tX11_isTableF, tX11_isProbeT, tX11_isProbeF, tX11_isHouseT, tX11_isHouseF, tX11_isPestT, tX11_isPestF, tX11_isStageT, tX11_isStageF, tX11_isPartT, tX11_isPartF, tX12_isBinT, tX12_isBinF, tX12_isTableT, tX12_isTableF, tX12_inT, tX12_inF, tX12_innT, tX12_innF, tX12_ingT, tX12_ingF, tX12_isStageT, tX12_isStageF, tX1_isByteT, tX1_isByteF, pn_0]
    obtain ⟨⟨a1, -⟩, b, -⟩ := hC.2.2.1 x (by omega) hx
    by_cases e : N 8 x = w
    · have ew : wk G w (c + 1) N l x k = (N, l, x, k) := if_pos (Or.inr e)
      rw [ew]
      refine ⟨I, ?_, hg, hC, Ag.rf, Or.inl rfl, hx, by show k ≤ 5000; omega, fun _ => Or.inl rfl⟩
      have b8 : I (G 0 x) 8 = I 4 19 := by rw [b.2.2.2.2.2.2, e, hw1]
      rw [gX11_led_l69, pn_1 (by omega)]
      simp (disch := omega) only [fail_r, no_r, nob_r, fI_o, Nat.reduceLeDiff, ↓reduceIte, not_true_eq_false, not_false_eq_true, false_imp_iff, true_imp_iff, and_true, true_and, and_self, implies_true, false_or, or_false, true_or, or_true, d10, d01, d00, d11, g_tn, Tot_some, Tot_none, Tot_ite, Tot_bind, ob_some, onl_n, onl_s, nat32, Int.toNat_natCast, i_add, i_sub, i_mul, i_addl, i_addr, i_subl, i_subr, i_mulr, i_addn, i_gd, i_tn, i_w, i_ltlT, i_ltlF, i_ltrT, i_ltrF, i_lelT, i_lelF, i_lerT, i_lerF, i_eqlT, i_eqlF, i_eqrT, i_eqrF, i_ltnT, i_ltnF, i_lenT, i_lenF, i_eqnT, i_eqnF, i_ltT, i_ltF, i_leT, i_leF, i_eqT, i_eqF, j_ltlT, j_ltlF, j_ltrT, j_ltrF, j_lelT, j_lelF, j_lerT, j_lerF, j_eqlT, j_eqlF, j_ltT, j_ltF, j_leT, j_leF, j_eqT, j_eqF, i_mull, l_tn, l_lt0, l_ne0, nleF, tX11_isStockT, tX11_isStockF, tX11_isBinT, tX11_isBinF, tX11_isPlanT, tX11_isPlanF, tX11_isValveT, tX11_isValveF, tX11_isLaneT, tX11_isLaneF, tX11_isGridFormT, tX11_isGridFormF, tX11_isFormT, tX11_isFormF, tX11_isTrayFormT, tX11_isTrayFormF, tX11_isPlacesFormT, tX11_isPlacesFormF, tX11_isTableT, tX11_isTableF, tX11_isProbeT, tX11_isProbeF, tX11_isHouseT, tX11_isHouseF, tX11_isPestT, tX11_isPestF, tX11_isStageT, tX11_isStageF, tX11_isPartT, tX11_isPartF, tX12_isBinT, tX12_isBinF, tX12_isTableT, tX12_isTableF, tX12_inT, tX12_inF, tX12_innT, tX12_innF, tX12_ingT, tX12_ingF, tX12_isStageT, tX12_isStageF, tX1_isByteT, tX1_isByteF, a1, eq_true b8]
    · have ew : wk G w (c + 1) N l x k = wk G w c (u2 N 8 x w) x (G 5 x) (k + 1) := if_neg (fun r => r.elim q e)
      rw [ew]
      have st := hC.2.2.2.1.1 x (by omega) hx
      have wx := cW_ge (G 1 x)
      have hc' := cnt_in (by omega) e (G 10 0) hx
      obtain ⟨⟨-, -, a3, -, a5, -, a7⟩, -, -, -, e5⟩ := hC.2.2.1 x (by omega) hx
      have f17 := hf q
      have ep : cP (G 1 x) (G 0 x) = G 0 x + 2 := if_pos (Or.inr f17)
      have en : nP (G 1 x) (G 2 x) (G 7 x) = 2 := by unfold nP; rw [if_neg (by omega), if_neg (by omega), if_pos f17]
      have e6 := (e5 (Or.inl f17)).1
      rw [ep] at a3 a5 a7 e6
      rw [en] at a7
      have sx := hg.2.2.1 x (by omega) hx
      have l5 := sx.2.2.2.2.2.2.2.2.2.2.1
      have t5 := (sx.2.2.2.2.2.2.2.2.2.2.2.2.1 f17).1
      obtain ⟨I', r1, r3, r4, r6, r8, r9, r10, r11⟩ := ih (u2 N 8 x w) (u2 I (G 0 x) 8 w) n1 x (G 5 x) (k + 1) (by omega) (by omega) (by omega) (hg.seen (by omega) hx) (hC.seen (by omega) hx) (by rw [u2n (by omega)]; exact hw1) l5 t5
      refine ⟨I', ?_, r3, r4, ?_, ?_, r9, r10, fun t => ?_⟩
      · rw [← r1, gX11_led_l69, pn_1 (by omega)]
        have b8 : ¬ I (G 0 x) 8 = I 4 19 := by rw [b.2.2.2.2.2.2, hw1]; exact e
        have e2 : (k : Int) + 1 = ((k + 1 : Nat) : Int) := by omega
        simp (disch := omega) only [fail_r, no_r, nob_r, fI_o, Nat.reduceLeDiff, ↓reduceIte, not_true_eq_false, not_false_eq_true, false_imp_iff, true_imp_iff, and_true, true_and, and_self, implies_true, false_or, or_false, true_or, or_true, d10, d01, d00, d11, g_tn, Tot_some, Tot_none, Tot_ite, Tot_bind, ob_some, onl_n, onl_s, nat32, Int.toNat_natCast, i_add, i_sub, i_mul, i_addl, i_addr, i_subl, i_subr, i_mulr, i_addn, i_gd, i_tn, i_w, i_ltlT, i_ltlF, i_ltrT, i_ltrF, i_lelT, i_lelF, i_lerT, i_lerF, i_eqlT, i_eqlF, i_eqrT, i_eqrF, i_ltnT, i_ltnF, i_lenT, i_lenF, i_eqnT, i_eqnF, i_ltT, i_ltF, i_leT, i_leF, i_eqT, i_eqF, j_ltlT, j_ltlF, j_ltrT, j_ltrF, j_lelT, j_lelF, j_lerT, j_lerF, j_eqlT, j_eqlF, j_ltT, j_ltF, j_leT, j_leF, j_eqT, j_eqF, i_mull, l_tn, l_lt0, l_ne0, nleF, tX11_isStockT, tX11_isStockF, tX11_isBinT, tX11_isBinF, tX11_isPlanT, tX11_isPlanF, tX11_isValveT, tX11_isValveF, tX11_isLaneT, tX11_isLaneF, tX11_isGridFormT, tX11_isGridFormF, tX11_isFormT, tX11_isFormF, tX11_isTrayFormT, tX11_isTrayFormF, tX11_isPlacesFormT, tX11_isPlacesFormF, tX11_isTableT, tX11_isTableF, tX11_isProbeT, tX11_isProbeF, tX11_isHouseT, tX11_isHouseF, tX11_isPestT, tX11_isPestF, tX11_isStageT, tX11_isStageF, tX11_isPartT, tX11_isPartF, tX12_isBinT, tX12_isBinF, tX12_isTableT, tX12_isTableF, tX12_inT, tX12_inF, tX12_innT, tX12_innF, tX12_ingT, tX12_ingF, tX12_isStageT, tX12_isStageF, tX1_isByteT, tX1_isByteF, a1, eq_false b8, a3, a5, a7, e6, e2]
        rw [hw1]
      · exact Ag.tr (Ag.st Ag.rf (far_in (by omega) (by omega) rfl)) r6
      · rcases r8 with r8 | r8
        · exact Or.inr ⟨by omega, by omega⟩
        · exact Or.inr r8
      · rcases r11 t with r | r
        · by_cases qt : t = x
          · subst qt; rw [u2_self] at r; exact Or.inr r
          · rw [u2n (by omega)] at r; exact Or.inl r
        · exact Or.inr r
/-- the model's walk -/
theorem led_M {G : Nat → Nat → Nat} {C : Nat → Int64} {σ : Shp} {J : Nat → Nat → Int64} {R : Nat → Nat → Option Nat} {w x2 : Int32} : ∀ (c : Nat) (N : Nat → Nat → Int32) (I : Nat → Nat → Int32) (n1 l x k : Nat), cnt N w (G 10 0) = c → c < n1 → k + c ≤ 5000 → TSg G C N → TMo G C N I J → I 114 32 = w → x ≤ G 10 0 → (x ≠ 0 → G 1 x = 17) →
    ∃ I' : Nat → Nat → Int32, gX12_led_l64 σ R n1 I x2 (Int32.ofInt k) (Int32.ofInt l) (Int32.ofInt x) = gX12_led_b113 σ R I' x2 (Int32.ofInt (wk G w c N l x k).2.2.2) (Int32.ofInt (wk G w c N l x k).2.1) (Int32.ofInt (wk G w c N l x k).2.2.1) ∧ TMo G C (wk G w c N l x k).1 I' J ∧ Ag [(133, 134)] I I' := by
  intro c
  induction c with
  | zero =>
    intro N I n1 l x k hc h1 hk hg hM hw2 hx hf
    obtain ⟨n1, rfl⟩ : ∃ n', n1 = n' + 1 := ⟨n1 - 1, by omega⟩
    have h40 := hg.1.1
    refine ⟨I, ?_, hM, Ag.rf⟩
    unfold wk
    rw [gX12_led_l64]
    by_cases q : x = 0
    · subst q
      simp (disch := omega) only [fail_r, no_r, nob_r, fI_o, Nat.reduceLeDiff, ↓reduceIte, not_true_eq_false, not_false_eq_true, false_imp_iff, true_imp_iff, and_true, true_and, and_self, implies_true, false_or, or_false, true_or, or_true, d10, d01, d00, d11, g_tn, Tot_some, Tot_none, Tot_ite, Tot_bind, ob_some, onl_n, onl_s, nat32, Int.toNat_natCast, i_add, i_sub, i_mul, i_addl, i_addr, i_subl, i_subr, i_mulr, i_addn, i_gd, i_tn, i_w, i_ltlT, i_ltlF, i_ltrT, i_ltrF, i_lelT, i_lelF, i_lerT, i_lerF, i_eqlT, i_eqlF, i_eqrT, i_eqrF, i_ltnT, i_ltnF, i_lenT, i_lenF, i_eqnT, i_eqnF, i_ltT, i_ltF, i_leT, i_leF, i_eqT, i_eqF, j_ltlT, j_ltlF, j_ltrT, j_ltrF, j_lelT, j_lelF, j_lerT, j_lerF, j_eqlT, j_eqlF, j_ltT, j_ltF, j_leT, j_leF, j_eqT, j_eqF, i_mull, l_tn, l_lt0, l_ne0, nleF, tX11_isStockT, tX11_isStockF, tX11_isBinT, tX11_isBinF, tX11_isPlanT, tX11_isPlanF, tX11_isValveT, tX11_isValveF, tX11_isLaneT, tX11_isLaneF, tX11_isGridFormT, tX11_isGridFormF, tX11_isFormT, tX11_isFormF, tX11_isTrayFormT, tX11_isTrayFormF, tX11_isPlacesFormT, tX11_isPlacesFormF, tX11_isTableT, tX11_isTableF, tX11_isProbeT, tX11_isProbeF, tX11_isHouseT, tX11_isHouseF, tX11_isPestT, tX11_isPestF, tX11_isStageT, tX11_isStageF, tX11_isPartT, tX11_isPartF, tX12_isBinT, tX12_isBinF, tX12_isTableT, tX12_isTableF, tX12_inT, tX12_inF, tX12_innT, tX12_innF, tX12_ingT, tX12_ingF, tX12_isStageT, tX12_isStageF, tX1_isByteT, tX1_isByteF]
    · have e : N 8 x = w := by
        apply Classical.byContradiction
        intro e
        have := cnt_in (by omega) e (G 10 0) hx
        omega
      have m11 : I 133 x = I 114 32 := by rw [(hM.2.2.1 x (by omega)).2.2.2.2.2.2.2.2.2.2, e, hw2]
      simp (disch := omega) only [fail_r, no_r, nob_r, fI_o, Nat.reduceLeDiff, ↓reduceIte, not_true_eq_false, not_false_eq_true, false_imp_iff, true_imp_iff, and_true, true_and, and_self, implies_true, false_or, or_false, true_or, or_true, d10, d01, d00, d11, g_tn, Tot_some, Tot_none, Tot_ite, Tot_bind, ob_some, onl_n, onl_s, nat32, Int.toNat_natCast, i_add, i_sub, i_mul, i_addl, i_addr, i_subl, i_subr, i_mulr, i_addn, i_gd, i_tn, i_w, i_ltlT, i_ltlF, i_ltrT, i_ltrF, i_lelT, i_lelF, i_lerT, i_lerF, i_eqlT, i_eqlF, i_eqrT, i_eqrF, i_ltnT, i_ltnF, i_lenT, i_lenF, i_eqnT, i_eqnF, i_ltT, i_ltF, i_leT, i_leF, i_eqT, i_eqF, j_ltlT, j_ltlF, j_ltrT, j_ltrF, j_lelT, j_lelF, j_lerT, j_lerF, j_eqlT, j_eqlF, j_ltT, j_ltF, j_leT, j_leF, j_eqT, j_eqF, i_mull, l_tn, l_lt0, l_ne0, nleF, tX11_isStockT, tX11_isStockF, tX11_isBinT, tX11_isBinF, tX11_isPlanT, tX11_isPlanF, tX11_isValveT, tX11_isValveF, tX11_isLaneT, tX11_isLaneF, tX11_isGridFormT, tX11_isGridFormF, tX11_isFormT, tX11_isFormF, tX11_isTrayFormT, tX11_isTrayFormF, tX11_isPlacesFormT, tX11_isPlacesFormF, tX11_isTableT, tX11_isTableF, tX11_isProbeT, tX11_isProbeF, tX11_isHouseT, tX11_isHouseF, tX11_isPestT, tX11_isPestF, tX11_isStageT, tX11_isStageF, tX11_isPartT, tX11_isPartF, tX12_isBinT, tX12_isBinF, tX12_isTableT, tX12_isTableF, tX12_inT, tX12_inF, tX12_innT, tX12_innF, tX12_ingT, tX12_ingF, tX12_isStageT, tX12_isStageF, tX1_isByteT, tX1_isByteF, eq_true m11]
  | succ c ih =>
    intro N I n1 l x k hc h1 hk hg hM hw2 hx hf
    obtain ⟨n1, rfl⟩ : ∃ n', n1 = n' + 1 := ⟨n1 - 1, by omega⟩
    have h40 := hg.1.1
    by_cases q : x = 0
    · have ew : wk G w (c + 1) N l x k = (N, l, x, k) := if_pos (Or.inl q)
      rw [ew]
      subst q
      refine ⟨I, ?_, hM, Ag.rf⟩
      rw [gX12_led_l64]
      simp (disch := omega) only [fail_r, no_r, nob_r, fI_o, Nat.reduceLeDiff, ↓reduceIte, not_true_eq_false, not_false_eq_true, false_imp_iff, true_imp_iff, and_true, true_and, and_self, implies_true, false_or, or_false, true_or, or_true, d10, d01, d00, d11, g_tn, Tot_some, Tot_none, Tot_ite, Tot_bind, ob_some, onl_n, onl_s, nat32, Int.toNat_natCast, i_add, i_sub, i_mul, i_addl, i_addr, i_subl, i_subr, i_mulr, i_addn, i_gd, i_tn, i_w, i_ltlT, i_ltlF, i_ltrT, i_ltrF, i_lelT, i_lelF, i_lerT, i_lerF, i_eqlT, i_eqlF, i_eqrT, i_eqrF, i_ltnT, i_ltnF, i_lenT, i_lenF, i_eqnT, i_eqnF, i_ltT, i_ltF, i_leT, i_leF, i_eqT, i_eqF, j_ltlT, j_ltlF, j_ltrT, j_ltrF, j_lelT, j_lelF, j_lerT, j_lerF, j_eqlT, j_eqlF, j_ltT, j_ltF, j_leT, j_leF, j_eqT, j_eqF, i_mull, l_tn, l_lt0, l_ne0, nleF, tX11_isStockT, tX11_isStockF, tX11_isBinT, tX11_isBinF, tX11_isPlanT, tX11_isPlanF, tX11_isValveT, tX11_isValveF, tX11_isLaneT, tX11_isLaneF, tX11_isGridFormT, tX11_isGridFormF, tX11_isFormT, tX11_isFormF, tX11_isTrayFormT, tX11_isTrayFormF, tX11_isPlacesFormT, tX11_isPlacesFormF, tX11_isTableT, tX11_isTableF, tX11_isProbeT, tX11_isProbeF, tX11_isHouseT, tX11_isHouseF, tX11_isPestT, tX11_isPestF, tX11_isStageT, tX11_isStageF, tX11_isPartT, tX11_isPartF, tX12_isBinT, tX12_isBinF, tX12_isTableT, tX12_isTableF, tX12_inT, tX12_inF, tX12_innT, tX12_innF, tX12_ingT, tX12_ingF, tX12_isStageT, tX12_isStageF, tX1_isByteT, tX1_isByteF]
    obtain ⟨m1, m2, m3, m4, m5, m6, m7, m8, m9, m10, m11⟩ := hM.2.2.1 x (by omega)
    by_cases e : N 8 x = w
    · have ew : wk G w (c + 1) N l x k = (N, l, x, k) := if_pos (Or.inr e)
      rw [ew]
      refine ⟨I, ?_, hM, Ag.rf⟩
      have m11 : I 133 x = I 114 32 := by rw [m11, e, hw2]
      rw [gX12_led_l64]
      simp (disch := omega) only [fail_r, no_r, nob_r, fI_o, Nat.reduceLeDiff, ↓reduceIte, not_true_eq_false, not_false_eq_true, false_imp_iff, true_imp_iff, and_true, true_and, and_self, implies_true, false_or, or_false, true_or, or_true, d10, d01, d00, d11, g_tn, Tot_some, Tot_none, Tot_ite, Tot_bind, ob_some, onl_n, onl_s, nat32, Int.toNat_natCast, i_add, i_sub, i_mul, i_addl, i_addr, i_subl, i_subr, i_mulr, i_addn, i_gd, i_tn, i_w, i_ltlT, i_ltlF, i_ltrT, i_ltrF, i_lelT, i_lelF, i_lerT, i_lerF, i_eqlT, i_eqlF, i_eqrT, i_eqrF, i_ltnT, i_ltnF, i_lenT, i_lenF, i_eqnT, i_eqnF, i_ltT, i_ltF, i_leT, i_leF, i_eqT, i_eqF, j_ltlT, j_ltlF, j_ltrT, j_ltrF, j_lelT, j_lelF, j_lerT, j_lerF, j_eqlT, j_eqlF, j_ltT, j_ltF, j_leT, j_leF, j_eqT, j_eqF, i_mull, l_tn, l_lt0, l_ne0, nleF, tX11_isStockT, tX11_isStockF, tX11_isBinT, tX11_isBinF, tX11_isPlanT, tX11_isPlanF, tX11_isValveT, tX11_isValveF, tX11_isLaneT, tX11_isLaneF, tX11_isGridFormT, tX11_isGridFormF, tX11_isFormT, tX11_isFormF, tX11_isTrayFormT, tX11_isTrayFormF, tX11_isPlacesFormT, tX11_isPlacesFormF, tX11_isTableT, tX11_isTableF, tX11_isProbeT, tX11_isProbeF, tX11_isHouseT, tX11_isHouseF, tX11_isPestT, tX11_isPestF, tX11_isStageT, tX11_isStageF, tX11_isPartT, tX11_isPartF, tX12_isBinT, tX12_isBinF, tX12_isTableT, tX12_isTableF, tX12_inT, tX12_inF, tX12_innT, tX12_innF, tX12_ingT, tX12_ingF, tX12_isStageT, tX12_isStageF, tX1_isByteT, tX1_isByteF, eq_true m11]
    · have ew : wk G w (c + 1) N l x k = wk G w c (u2 N 8 x w) x (G 5 x) (k + 1) := if_neg (fun r => r.elim q e)
      rw [ew]
      have hc' := cnt_in (by omega) e (G 10 0) hx
      have f17 := hf q
      have sx := hg.2.2.1 x (by omega) hx
      have l5 := sx.2.2.2.2.2.2.2.2.2.2.1
      have t5 := (sx.2.2.2.2.2.2.2.2.2.2.2.2.1 f17).1
      obtain ⟨I', r2, r5, r7⟩ := ih (u2 N 8 x w) (u2 I 133 x w) n1 x (G 5 x) (k + 1) (by omega) (by omega) (by omega) (hg.seen (by omega) hx) hM.seen (by rw [u2n (by omega)]; exact hw2) l5 t5
      refine ⟨I', ?_, r5, ?_⟩
      · rw [← r2, gX12_led_l64]
        have b8 : ¬ I 133 x = I 114 32 := by rw [m11, hw2]; exact e
        have e2 : (k : Int) + 1 = ((k + 1 : Nat) : Int) := by omega
        simp (disch := omega) only [fail_r, no_r, nob_r, fI_o, Nat.reduceLeDiff, ↓reduceIte, not_true_eq_false, not_false_eq_true, false_imp_iff, true_imp_iff, and_true, true_and, and_self, implies_true, false_or, or_false, true_or, or_true, d10, d01, d00, d11, g_tn, Tot_some, Tot_none, Tot_ite, Tot_bind, ob_some, onl_n, onl_s, nat32, Int.toNat_natCast, i_add, i_sub, i_mul, i_addl, i_addr, i_subl, i_subr, i_mulr, i_addn, i_gd, i_tn, i_w, i_ltlT, i_ltlF, i_ltrT, i_ltrF, i_lelT, i_lelF, i_lerT, i_lerF, i_eqlT, i_eqlF, i_eqrT, i_eqrF, i_ltnT, i_ltnF, i_lenT, i_lenF, i_eqnT, i_eqnF, i_ltT, i_ltF, i_leT, i_leF, i_eqT, i_eqF, j_ltlT, j_ltlF, j_ltrT, j_ltrF, j_lelT, j_lelF, j_lerT, j_lerF, j_eqlT, j_eqlF, j_ltT, j_ltF, j_leT, j_leF, j_eqT, j_eqF, i_mull, l_tn, l_lt0, l_ne0, nleF, tX11_isStockT, tX11_isStockF, tX11_isBinT, tX11_isBinF, tX11_isPlanT, tX11_isPlanF, tX11_isValveT, tX11_isValveF, tX11_isLaneT, tX11_isLaneF, tX11_isGridFormT, tX11_isGridFormF, tX11_isFormT, tX11_isFormF, tX11_isTrayFormT, tX11_isTrayFormF, tX11_isPlacesFormT, tX11_isPlacesFormF, tX11_isTableT, tX11_isTableF, tX11_isProbeT, tX11_isProbeF, tX11_isHouseT, tX11_isHouseF, tX11_isPestT, tX11_isPestF, tX11_isStageT, tX11_isStageF, tX11_isPartT, tX11_isPartF, tX12_isBinT, tX12_isBinF, tX12_isTableT, tX12_isTableF, tX12_inT, tX12_inF, tX12_innT, tX12_innF, tX12_ingT, tX12_ingF, tX12_isStageT, tX12_isStageF, tX1_isByteT, tX1_isByteF, eq_false b8, u2n, m8, e2]
        rw [hw2]
      · exact Ag.tr (Ag.st Ag.rf rfl) r7
