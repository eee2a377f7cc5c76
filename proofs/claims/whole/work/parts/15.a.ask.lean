/-! ===== ask: what is told, and its bodies ===== -/
def Tr (W : List (Nat × Nat)) (a c f m : Nat) (l : List Int32) (I I' : Nat → Nat → Int32) : Prop := I' c f = Int32.ofInt ((m + l.length : Nat) : Int) ∧ (∀ i, i < l.length → l[i]? = some (I' a (m + i))) ∧ (∀ k, k < m → I' a k = I a k) ∧ Ag W I I'
theorem Tr.nil {W : List (Nat × Nat)} {a c f m : Nat} {I : Nat → Nat → Int32} (h : I c f = Int32.ofInt (m : Int)) : Tr W a c f m [] I I := ⟨h, fun i hi => absurd hi (Nat.not_lt_zero _), fun _ _ => rfl, Ag.rf⟩
theorem Tr.one {W : List (Nat × Nat)} {a c f m : Nat} {x : Int32} {I : Nat → Nat → Int32} (hac : a ≠ c) (h1 : inW W (key a m) = true) (h2 : inW W (key c f) = true) : Tr W a c f m [x] I (u2 (u2 I a m x) c f (Int32.ofInt ((m + 1 : Nat) : Int))) := by
  refine ⟨u2_self _ _ _ _, fun i hi => ?_, fun k hk => ?_, Ag.st (Ag.st Ag.rf h1) h2⟩
  · obtain rfl : i = 0 := by
      have : i < 1 := hi
      omega
    rw [u2n (by omega), u2s ⟨rfl, by omega⟩]
    rfl
  · rw [u2n (by omega), u2n (by omega)]
theorem Tr.app {W : List (Nat × Nat)} {a c f m : Nat} {l l' : List Int32} {I I1 I2 : Nat → Nat → Int32} (h : Tr W a c f m l I I1) (h' : Tr W a c f (m + l.length) l' I1 I2) : Tr W a c f m (l ++ l') I I2 := by
  obtain ⟨a1, a2, a3, a4⟩ := h
  obtain ⟨b1, b2, b3, b4⟩ := h'
  refine ⟨by rw [b1, List.length_append, Nat.add_assoc], fun i hi => ?_, fun k hk => by rw [b3 k (by omega)]; exact a3 k hk, a4.tr b4⟩
  rw [List.length_append] at hi
  by_cases q : i < l.length
  · rw [List.getElem?_append_left q, a2 i q, b3 (m + i) (by omega)]
  · rw [List.getElem?_append_right (by omega), b2 (i - l.length) (by omega), show m + l.length + (i - l.length) = m + i by omega]
theorem Tr.st {W : List (Nat × Nat)} {a c f m p q : Nat} {v : Int32} {l : List Int32} {I I' : Nat → Nat → Int32} (h : Tr W a c f m l I I') (h1 : ¬ (c = p ∧ f = q)) (h2 : a ≠ p) (h3 : inW W (key p q) = true) : Tr W a c f m l I (u2 I' p q v) := by
  obtain ⟨a1, a2, a3, a4⟩ := h
  exact ⟨by rw [u2n h1]; exact a1, fun i hi => by rw [u2n (by omega)]; exact a2 i hi, fun k hk => by rw [u2n (by omega)]; exact a3 k hk, Ag.st a4 h3⟩
abbrev TrC (m : Nat) (l : List Int32) (I I' : Nat → Nat → Int32) : Prop := Tr [(7, 8), (8, 9)] 8 7 1 m l I I'
def szS (G : Nat → Nat → Nat) (N : Nat → Nat → Int32) : Nat → Nat → List Int32 × Int32 × Int32
  | 0, _ => ([], 0, 1)
  | d + 1, t => if t = 0 then ([], 0, 1) else if G 7 t = 2 then (if (szS G N d (G 5 t)).2.2 ≠ 0 then ([3] ++ (szS G N d (G 5 t)).1, 0, (szS G N d (G 5 t)).2.2) else if (szS G N d (G 6 t)).2.2 ≠ 0 then ([3] ++ (szS G N d (G 5 t)).1 ++ (szS G N d (G 6 t)).1, 0, (szS G N d (G 6 t)).2.2) else ([3] ++ (szS G N d (G 5 t)).1 ++ (szS G N d (G 6 t)).1 ++ [2] ++ [1], (szS G N d (G 5 t)).2.1 + (szS G N d (G 6 t)).2.1 + 2 * N 5 t + N 6 t, 0)) else if G 7 t = 1 then ([2] ++ [1], 2 * N 5 t + N 6 t, 0) else if G 7 t = 3 then ([4] ++ [1], if N 6 t = 0 then 0 else N 5 t / N 6 t, if N 6 t = 0 then 6 else 0) else ([1], N 5 t, 0)
def EE : Nat → Nat
  | 0 => 2
  | d + 1 => 3 + 2 * EE d
theorem szS_0 {G : Nat → Nat → Nat} {N : Nat → Nat → Int32} {d : Nat} : szS G N d 0 = ([], 0, 1) := by
  cases d
  · rfl
  · unfold szS
    rw [if_pos rfl]
theorem szS_len {G : Nat → Nat → Nat} {C : Nat → Int64} {N : Nat → Nat → Int32} (hg : TSg G C N) : ∀ (d t : Nat), t ≤ G 10 0 → (t ≠ 0 → G 1 t = 16) → G 8 t ≤ d → (szS G N (d + 1) t).1.length ≤ EE d := by
  intro d
  induction d with
  | zero =>
    intro t h1 h2 h3
    by_cases c : t = 0
    · rw [c, szS_0]; exact Nat.zero_le _
    have st := (hg.2.2.1 t (by omega) h1).2.2.2.2.2.2.2.2.2.2.2.2.2 (h2 c)
    unfold szS
    rw [if_neg c, if_neg (fun h => by have := (st h).1; omega)]
    split
    · show 2 ≤ 2; omega
    · split
      · show 2 ≤ 2; omega
      · show 1 ≤ 2; omega
  | succ d ih =>
    intro t h1 h2 h3
    by_cases c : t = 0
    · rw [c, szS_0]; exact Nat.zero_le _
    have hst := hg.2.2.1 t (by omega) h1
    have st := hst.2.2.2.2.2.2.2.2.2.2.2.2.2 (h2 c)
    have h5 := hst.2.2.2.2.2.2.2.2.2.2.1
    have h6 := hst.2.2.2.2.2.2.2.2.2.2.2.1
    have z8 := (hg.2.2.2.2.1 0 (Or.inl rfl)).2.2.2.1
    unfold szS
    rw [if_neg c]
    by_cases k2 : G 7 t = 2
    · obtain ⟨s1, s2, s3⟩ := st k2
      have l1 := ih (G 5 t) h5 (fun h => (s2 h).1) (by
        by_cases e : G 5 t = 0
        · rw [e, z8]; omega
        · have := (s2 e).2; omega)
      have l2 := ih (G 6 t) h6 (fun h => (s3 h).1) (by
        by_cases e : G 6 t = 0
        · rw [e, z8]; omega
        · have := (s3 e).2; omega)
      rw [if_pos k2]
      show _ ≤ 3 + 2 * EE d
      split
      · simp only [List.length_append, List.length_cons, List.length_nil]; omega
      · split
        · simp only [List.length_append, List.length_cons, List.length_nil]; omega
        · simp only [List.length_append, List.length_cons, List.length_nil]; omega
    · rw [if_neg k2]
      show _ ≤ 3 + 2 * EE d
      split
      · simp only [List.length_append, List.length_cons, List.length_nil]; omega
      · split
        · simp only [List.length_append, List.length_cons, List.length_nil]; omega
        · simp only [List.length_cons, List.length_nil]; omega
/-- a body of the class -/
theorem beg_C {σ : Shp} {R : Nat → Nat → Option Nat} {I : Nat → Nat → Int32} {m : Nat} {x : Int32} (hS : Skel σ R) (h : I 7 1 = Int32.ofInt (m : Int)) (hm : m < 128) : gX0_begin σ I x = some (u2 (u2 I 8 m x) 7 1 (Int32.ofInt ((m + 1 : Nat) : Int))) := by
  have l8 : lnx σ 8 = 128 := hS.l 8 128 (by decide) rfl
  have ek : ((m : Int) + 1) = ((m + 1 : Nat) : Int) := by omega
  unfold gX0_begin
  simp (disch := omega) only [fail_r, no_r, nob_r, fI_o, Nat.reduceLeDiff, ↓reduceIte, not_true_eq_false, not_false_eq_true, false_imp_iff, true_imp_iff, and_true, true_and, and_self, implies_true, false_or, or_false, true_or, or_true, d10, d01, d00, d11, g_tn, Tot_some, Tot_none, Tot_ite, Tot_bind, ob_some, onl_n, onl_s, nat32, Int.toNat_natCast, i_add, i_sub, i_mul, i_addl, i_addr, i_subl, i_subr, i_mulr, i_addn, i_gd, i_tn, i_w, i_ltlT, i_ltlF, i_ltrT, i_ltrF, i_lelT, i_lelF, i_lerT, i_lerF, i_eqlT, i_eqlF, i_eqrT, i_eqrF, i_ltnT, i_ltnF, i_lenT, i_lenF, i_eqnT, i_eqnF, i_ltT, i_ltF, i_leT, i_leF, i_eqT, i_eqF, j_ltlT, j_ltlF, j_ltrT, j_ltrF, j_lelT, j_lelF, j_lerT, j_lerF, j_eqlT, j_eqlF, j_ltT, j_ltF, j_leT, j_leF, j_eqT, j_eqF, i_mull, l_tn, l_lt0, l_ne0, nleF, tX11_isStockT, tX11_isStockF, tX11_isBinT, tX11_isBinF, tX11_isPlanT, tX11_isPlanF, tX11_isValveT, tX11_isValveF, tX11_isLaneT, tX11_isLaneF, tX11_isGridFormT, tX11_isGridFormF, tX11_isFormT, tX11_isFormF, tX11_isTrayFormT, tX11_isTrayFormF, tX11_isPlacesFormT, tX11_isPlacesFormF, tX11_isTableT, tX11_isTableF, tX11_isProbeT, tX11_isProbeF, tX11_isHouseT, tX11_isHouseF, tX11_isPestT, tX11_isPestF, tX11_isStageT, tX11_isStageF, tX11_isPartT, tX11_isPartF, tX12_isBinT, tX12_isBinF, tX12_isTableT, tX12_isTableF, tX12_inT, tX12_inF, tX12_innT, tX12_innF, tX12_ingT, tX12_ingF, tX12_isStageT, tX12_isStageF, tX1_isByteT, tX1_isByteF, l8, h, ek, u2n]
theorem beg_T {I : Nat → Nat → Int32} {m : Nat} {x : Int32} : TrC m [x] I (u2 (u2 I 8 m x) 7 1 (Int32.ofInt ((m + 1 : Nat) : Int))) := Tr.one (by omega) rfl rfl
theorem beg_2 {I : Nat → Nat → Int32} {m : Nat} {x : Int32} : u2 (u2 I 8 m x) 7 1 (Int32.ofInt ((m + 1 : Nat) : Int)) 7 2 = I 7 2 := by rw [u2n (by omega), u2n (by omega)]
theorem TrC.cl {G : Nat → Nat → Nat} {C : Nat → Int64} {N : Nat → Nat → Int32} {σ : Shp} {I I' : Nat → Nat → Int32} {J : Nat → Nat → Int64} {R : Nat → Nat → Option Nat} {m : Nat} {l : List Int32} (h : TrC m l I I') (hn : 198 ≤ nxx σ ∧ nxx σ ≤ 900000) (hc : TCl G C N σ I J R) : TCl G C N σ I' J R := hc.ag hn h.2.2.2 Ag.rf Ag.rf rfl
/-- a plant that is no graft -/
theorem leaf_C {G : Nat → Nat → Nat} {C : Nat → Int64} {N : Nat → Nat → Int32} {σ : Shp} {I : Nat → Nat → Int32} {J : Nat → Nat → Int64} {R : Nat → Nat → Option Nat} {t m d : Nat} {fr : Shp → (Nat → Nat → Int32) → (Nat → Nat → Option Nat) → Option Nat → Int32 → Option ((Nat → Nat → Int32) × Int32)} (hS : Skel σ R) (hn : nxx σ ≤ 900000) (hg : TSg G C N) (hc : TCl G C N σ I J R) (t1 : 1 ≤ t) (t2 : t ≤ G 10 0) (k2 : G 7 t ≠ 2) (h : I 7 1 = Int32.ofInt (m : Int)) (hm : m + 2 ≤ 128) (h2 : I 7 2 = 0) : ∃ I', gX0_sizeOf_b82 fr σ R I (some (G 0 t)) 0 = some (I', (szS G N (d + 1) t).2.1) ∧ TrC m (szS G N (d + 1) t).1 I I' ∧ I' 7 2 = (szS G N (d + 1) t).2.2 := by
  have g := hc.2.2.2.1.1 t t1 t2
  have w := cW_ge (G 1 t)
  have h198 := hS.1
  obtain ⟨⟨a1, -⟩, ⟨-, b3, -, b5, b6, -⟩, -⟩ := hc.2.2.1 t t1 t2
  have k5 := (hg.2.2.1 t t1 t2).2.1
  have e : szS G N (d + 1) t = if G 7 t = 1 then ([2] ++ [1], 2 * N 5 t + N 6 t, 0) else if G 7 t = 3 then ([4] ++ [1], if N 6 t = 0 then 0 else N 5 t / N 6 t, if N 6 t = 0 then 6 else 0) else ([1], N 5 t, 0) := by
    show (if t = 0 then _ else _) = _
    rw [if_neg (by omega), if_neg k2]
  rw [e]
  have o5 : ∀ (x y : Int32) (q : Nat), u2 (u2 (u2 (u2 I 8 m x) 7 1 (Int32.ofInt ((m + 1 : Nat) : Int))) 8 (m + 1) y) 7 1 (Int32.ofInt ((m + 1 + 1 : Nat) : Int)) (G 0 t) q = I (G 0 t) q := fun x y q => by rw [u2n (by omega), u2n (by omega), u2n (by omega), u2n (by omega)]
  have o6 : ∀ (x : Int32) (q : Nat), u2 (u2 I 8 m x) 7 1 (Int32.ofInt ((m + 1 : Nat) : Int)) (G 0 t) q = I (G 0 t) q := fun x q => by rw [u2n (by omega), u2n (by omega)]
  have tw : ∀ x y : Int32, TrC m ([x] ++ [y]) I (u2 (u2 (u2 (u2 I 8 m x) 7 1 (Int32.ofInt ((m + 1 : Nat) : Int))) 8 (m + 1) y) 7 1 (Int32.ofInt ((m + 1 + 1 : Nat) : Int))) := fun x y => Tr.app beg_T beg_T
  unfold gX0_sizeOf_b82
  rw [ob_some, if_pos a1, b3]
  by_cases c1 : G 7 t = 1
  · rw [if_pos c1, if_pos (by rw [c1]; rfl)]
    unfold gX0_sizeOf_b98
    rw [beg_C hS h (by omega), ob_some, beg_C (m := m + 1) hS (u2_self _ _ _ _) (by omega), ob_some, ob_some, if_pos a1, o5, o5, b5, b6]
    refine ⟨_, by rw [Int32.zero_add], tw 2 1, ?_⟩
    rw [beg_2, beg_2]; exact h2
  rw [if_neg c1, if_neg (by rw [i_eql (by omega)]; omega), if_neg (by rw [i_eql (by omega)]; omega)]
  by_cases c3 : G 7 t = 3
  · rw [if_pos c3, if_pos (by rw [c3]; rfl), beg_C hS h (by omega), ob_some, beg_C (m := m + 1) hS (u2_self _ _ _ _) (by omega), ob_some, o5, o5, b5, b6]
    by_cases z : N 6 t = 0
    · rw [if_pos z]
      unfold gX0_faulted
      refine ⟨_, by rw [ob_some, if_pos z], (tw 4 1).st (by omega) (by omega) rfl, ?_⟩
      rw [u2_self]
      show 6 = if N 6 t = 0 then 6 else 0
      rw [if_pos z]
    · rw [if_neg z, if_pos z]
      refine ⟨_, by rw [if_neg z], tw 4 1, ?_⟩
      rw [beg_2, beg_2]
      show I 7 2 = if N 6 t = 0 then 6 else 0
      rw [if_neg z]; exact h2
  · rw [if_neg c3, if_neg (by rw [i_eql (by omega)]; omega), beg_C hS h (by omega), ob_some, o6, b5]
    exact ⟨_, rfl, beg_T, by rw [beg_2]; exact h2⟩
theorem sz_C {G : Nat → Nat → Nat} {C : Nat → Int64} {N : Nat → Nat → Int32} {σ : Shp} {J : Nat → Nat → Int64} {R : Nat → Nat → Option Nat} (hS : Skel σ R) (hn : nxx σ ≤ 900000) (hg : TSg G C N) : ∀ (d t m lv n : Nat) (I : Nat → Nat → Int32), TCl G C N σ I J R → t ≤ G 10 0 → (t ≠ 0 → G 1 t = 16) → G 8 t ≤ d → lv + d ≤ 4 → d < n → I 7 1 = Int32.ofInt (m : Int) → m + EE d ≤ 128 → I 7 2 = 0 → ∃ I', gX0_sizeOf n σ I R (pn G t) (Int32.ofInt lv) = some (I', (szS G N (d + 1) t).2.1) ∧ TrC m (szS G N (d + 1) t).1 I I' ∧ I' 7 2 = (szS G N (d + 1) t).2.2 := by
  intro d
  induction d with
  | zero =>
    intro t m lv n I hc t2 f16 h8 hl hn' h hm h2
    obtain ⟨n, rfl⟩ : ∃ q, n = q + 1 := ⟨n - 1, by omega⟩
    by_cases c : t = 0
    · rw [c, szS_0, pn_0, gX0_sizeOf]
      exact ⟨u2 I 7 2 1, rfl, (Tr.nil h).st (by omega) (by omega) rfl, u2_self _ _ _ _⟩
    have st := (hg.2.2.1 t (by omega) t2).2.2.2.2.2.2.2.2.2.2.2.2.2 (f16 c)
    have k2 : G 7 t ≠ 2 := fun q => by have := (st q).1; omega
    have k5 := (hg.2.2.1 t (by omega) t2).2.1
    obtain ⟨⟨a1, -⟩, ⟨-, b3, -⟩, -⟩ := hc.2.2.1 t (by omega) t2
    rw [pn_1 (by omega), gX0_sizeOf]
    simp only [onl_s]
    rw [if_pos (by rw [i_lel (by omega)]; omega), if_pos a1, b3, if_neg (by rw [i_eql (by omega)]; omega)]
    exact leaf_C hS hn hg hc (by omega) t2 k2 h (by have : EE 0 = 2 := rfl; omega) h2
  | succ d ih =>
    intro t m lv n I hc t2 f16 h8 hl hn' h hm h2
    have eE : EE (d + 1) = 3 + 2 * EE d := rfl
    obtain ⟨n, rfl⟩ : ∃ q, n = q + 1 := ⟨n - 1, by omega⟩
    by_cases c : t = 0
    · rw [c, szS_0, pn_0, gX0_sizeOf]
      exact ⟨u2 I 7 2 1, rfl, (Tr.nil h).st (by omega) (by omega) rfl, u2_self _ _ _ _⟩
    have hst := hg.2.2.1 t (by omega) t2
    have st := hst.2.2.2.2.2.2.2.2.2.2.2.2.2 (f16 c)
    have k5 := hst.2.1
    have g := hc.2.2.2.1.1 t (by omega) t2
    have w := cW_ge (G 1 t)
    have h198 := hS.1
    obtain ⟨⟨a1, -, a3, -, a5, -, a7⟩, ⟨-, b3, -, b5, b6, -⟩, -, -, aE⟩ := hc.2.2.1 t (by omega) t2
    rw [pn_1 (by omega), gX0_sizeOf]
    simp only [onl_s]
    rw [if_pos (by rw [i_lel (by omega)]; omega), if_pos a1, b3]
    by_cases k2 : G 7 t = 2
    case neg =>
      rw [if_neg (by rw [i_eql (by omega)]; omega)]
      exact leaf_C hS hn hg hc (by omega) t2 k2 h (by omega) h2
    obtain ⟨s1, s2, s3⟩ := st k2
    have z8 := (hg.2.2.2.2.1 0 (Or.inl rfl)).2.2.2.1
    have d5 : G 8 (G 5 t) ≤ d := by
      by_cases e : G 5 t = 0
      · rw [e, z8]; omega
      · have := (s2 e).2; omega
    have d6 : G 8 (G 6 t) ≤ d := by
      by_cases e : G 6 t = 0
      · rw [e, z8]; omega
      · have := (s3 e).2; omega
    have h5 := hst.2.2.2.2.2.2.2.2.2.2.1
    have h6 := hst.2.2.2.2.2.2.2.2.2.2.2.1
    have l5 := szS_len hg d (G 5 t) h5 (fun e => (s2 e).1) d5
    have l6 := szS_len hg d (G 6 t) h6 (fun e => (s3 e).1) d6
    have aE := aE (Or.inr ⟨f16 c, k2⟩)
    rw [f16 c, show cP 16 (G 0 t) = G 0 t + 1 from rfl] at a3 a5 a7 aE
    rw [k2, show nP 16 (G 2 t) 2 = 2 from rfl] at a7
    have eS : szS G N (d + 1 + 1) t = if (szS G N (d + 1) (G 5 t)).2.2 ≠ 0 then ([3] ++ (szS G N (d + 1) (G 5 t)).1, 0, (szS G N (d + 1) (G 5 t)).2.2) else if (szS G N (d + 1) (G 6 t)).2.2 ≠ 0 then ([3] ++ (szS G N (d + 1) (G 5 t)).1 ++ (szS G N (d + 1) (G 6 t)).1, 0, (szS G N (d + 1) (G 6 t)).2.2) else ([3] ++ (szS G N (d + 1) (G 5 t)).1 ++ (szS G N (d + 1) (G 6 t)).1 ++ [2] ++ [1], (szS G N (d + 1) (G 5 t)).2.1 + (szS G N (d + 1) (G 6 t)).2.1 + 2 * N 5 t + N 6 t, 0) := by
      show (if t = 0 then _ else _) = _
      rw [if_neg c, if_pos k2]
    rw [eS, if_pos (by rw [k2]; rfl), beg_C hS h (by omega), ob_some]
    have T0 : TrC m [3] I (u2 (u2 I 8 m 3) 7 1 (Int32.ofInt ((m + 1 : Nat) : Int))) := beg_T
    have hn2 : 198 ≤ nxx σ ∧ nxx σ ≤ 900000 := ⟨h198, hn⟩
    have lve : (Int32.ofInt (lv : Int)) + 1 = Int32.ofInt ((lv + 1 : Nat) : Int) := iadd1
    obtain ⟨I1, r1, T1, F1⟩ := ih (G 5 t) (m + 1) (lv + 1) n _ (T0.cl hn2 hc) h5 (fun e => (s2 e).1) d5 (by omega) (by omega) (u2_self _ _ _ _) (by omega) (by rw [beg_2]; exact h2)
    have T01 : TrC m ([3] ++ (szS G N (d + 1) (G 5 t)).1) I I1 := T0.app T1
    generalize hL : szS G N (d + 1) (G 5 t) = L at *
    have q0 : ¬ ((0 : Int32) < 0 ∨ 2 ≤ Int32.toNatClampNeg (0 : Int32)) := by decide
    have q1 : ¬ ((1 : Int32) < 0 ∨ 2 ≤ Int32.toNatClampNeg (1 : Int32)) := by decide
    have t0 : Int32.toNatClampNeg (0 : Int32) = 0 := rfl
    have t1 : Int32.toNatClampNeg (1 : Int32) = 1 := rfl
    show ∃ I', gX0_sizeOf_l33 (gX0_sizeOf n) σ R (1999999 + 1) _ (some (G 0 t)) (Int32.ofInt lv) 0 0 = some (I', _) ∧ _ ∧ _
    rw [gX0_sizeOf_l33]
    rw [ob_some, if_pos a1, a3, ob_some, if_pos a5, a7, if_neg (by decide), if_pos (by rw [beg_2]; exact h2), if_pos q0, t0, aE.1, lve, r1, ob_some]
    dsimp only
    show ∃ I', gX0_sizeOf_l33 (gX0_sizeOf n) σ R (1999998 + 1) I1 (some (G 0 t)) (Int32.ofInt lv) (0 + L.2.1) 1 = some (I', _) ∧ _ ∧ _
    rw [gX0_sizeOf_l33]
    rw [ob_some, if_pos a1, a3, ob_some, if_pos a5, a7, if_neg (by decide), F1]
    by_cases f1 : L.2.2 = 0
    case neg =>
      rw [if_neg f1, if_neg f1, if_pos f1]
      exact ⟨I1, rfl, T01, F1⟩
    rw [if_pos f1, if_neg (show ¬ (L.2.2 ≠ 0) from fun e => e f1), if_pos q1, t1, aE.2, lve]
    have lk : m + ([3] ++ L.1).length = m + 1 + L.1.length := by
      rw [List.length_append]
      show m + (1 + L.1.length) = _
      omega
    obtain ⟨I2, r2, T2, F2⟩ := ih (G 6 t) (m + ([3] ++ L.1).length) (lv + 1) n I1 (T01.cl hn2 hc) h6 (fun e => (s3 e).1) d6 (by omega) (by omega) T01.1 (by omega) (by rw [F1]; exact f1)
    have T02 : TrC m ([3] ++ L.1 ++ (szS G N (d + 1) (G 6 t)).1) I I2 := T01.app T2
    generalize hR : szS G N (d + 1) (G 6 t) = Q at *
    rw [r2, ob_some]
    dsimp only
    show ∃ I', gX0_sizeOf_l33 (gX0_sizeOf n) σ R (1999997 + 1) I2 (some (G 0 t)) (Int32.ofInt lv) (0 + L.2.1 + Q.2.1) 2 = some (I', _) ∧ _ ∧ _
    rw [gX0_sizeOf_l33]
    rw [ob_some, if_pos a1, a3, ob_some, if_pos a5, a7, if_pos (by decide), F2]
    by_cases f2 : Q.2.2 = 0
    case neg =>
      rw [if_neg f2, if_pos f2]
      exact ⟨I2, rfl, T02, F2⟩
    rw [if_pos f2, if_neg (show ¬ (Q.2.2 ≠ 0) from fun e => e f2)]
    have c2 := T02.cl hn2 hc
    obtain ⟨⟨e1, -⟩, ⟨-, e3, -, e5, e6, -⟩, -⟩ := c2.2.2.1 t (by omega) t2
    unfold gX0_sizeOf_b82
    rw [ob_some, if_pos a1, e3, if_neg (by rw [i_eql (by omega)]; omega), if_pos (by rw [k2]; rfl)]
    unfold gX0_sizeOf_b98
    have lk2 : m + ([3] ++ L.1 ++ Q.1).length = m + 1 + L.1.length + Q.1.length := by
      rw [List.length_append]
      omega
    generalize hM : m + ([3] ++ L.1 ++ Q.1).length = M at *
    rw [beg_C (m := M) hS (by rw [T02.1, hM]) (by omega), ob_some, beg_C (m := M + 1) hS (u2_self _ _ _ _) (by omega), ob_some, ob_some, if_pos a1, u2n (by omega), u2n (by omega), u2n (by omega), u2n (by omega), u2n (by omega), u2n (by omega), u2n (by omega), u2n (by omega), e5, e6]
    have T3 : TrC M ([2] ++ [1]) I2 (u2 (u2 (u2 (u2 I2 8 M 2) 7 1 (Int32.ofInt ((M + 1 : Nat) : Int))) 8 (M + 1) 1) 7 1 (Int32.ofInt ((M + 1 + 1 : Nat) : Int))) := Tr.app beg_T beg_T
    rw [← hM] at T3
    have T4 := T02.app T3
    rw [← List.append_assoc] at T4
    rw [hM] at T4
    refine ⟨_, by rw [Int32.zero_add], T4, ?_⟩
    rw [beg_2, beg_2, F2]; exact f2
