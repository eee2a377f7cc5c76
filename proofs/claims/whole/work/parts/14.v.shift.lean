/-! ===== shift: rows, places, all ===== -/
theorem sh_g {I I' : Nat → Nat → Int32} {W : List (Nat × Nat)} (hs : GScal I) (a : Ag W I I') (d : disW [(1000000, 1000001), (1000018, 1000020), (1000025, 1000026), (1000032, 1000033), (2000012, 2000013), (2000015, 2000017), (2000018, 2000020)] W = true) (e1 : I' 4 13 = I' 114 1) (e2 : I' 4 14 = I' 114 2) (e5 : I' 4 17 = I' 114 22) : GScal I' := by
  have k := a.kp d
  refine ⟨?_, e1, e2, ?_, ?_, e5, ?_, ?_⟩
  · rw [k 4 12 rfl, k 114 0 rfl]; exact hs.e0
  · rw [k 4 15 rfl, k 114 18 rfl]; exact hs.e3
  · rw [k 4 16 rfl, k 114 19 rfl]; exact hs.e4
  · rw [k 4 18 rfl, k 114 25 rfl]; exact hs.e6
  · rw [k 4 19 rfl, k 114 32 rfl]; exact hs.e7
theorem c_shiftR {G : Nat → Nat → Nat} {C : Nat → Int64} {N : Nat → Nat → Int32} {σ : Shp} {I : Nat → Nat → Int32} {J : Nat → Nat → Int64} {R : Nat → Nat → Option Nat} {i o : Int} {x y p q n : Nat} (hn : 198 ≤ nxx σ ∧ nxx σ ≤ 900000) (hs : GScal I) (hg : TSg G C N) (hc : TCl G C N σ I J R) (hm : TMo G C N I J) (c1 : 0 ≤ i ∧ i ≤ 15) (c2 : 0 ≤ o ∧ o ≤ 15) (x1 : 1 ≤ x) (x2 : x ≤ G 10 0) (y1 : 1 ≤ y) (y2 : y ≤ G 10 0) (e1 : R 6 i.toNat = some (G 0 x)) (e2 : R 6 o.toNat = some (G 0 y)) (m1 : I 115 i.toNat = Int32.ofInt x) (m2 : I 115 o.toNat = Int32.ofInt y) (fx : G 1 x ≤ 7) (fy : G 1 y = G 1 x) (zx : p + n ≤ G 2 x) (zy : q + n ≤ G 2 y) : Tot (gX11_shift σ I J R (Int32.ofInt i) (Int32.ofInt p) (Int32.ofInt o) (Int32.ofInt q) (Int32.ofInt n)) (fun t => Tot (gX12_shift σ t.1 t.2.1 t.2.2.1 (Int32.ofInt i) (Int32.ofInt p) (Int32.ofInt o) (Int32.ofInt q) (Int32.ofInt n)) (fun t2 => t.2.2.2 = t2.2.2 ∧ TOut σ I t2.1 J t2.2.1 R t.2.2.1)) := by
  have h0 := hg.1
  have a1 : Ag [(2000017, 2000018)] I (u2 I 4 17 0) := Ag.st Ag.rf rfl
  have hc1 : TCl G C N σ (u2 I 4 17 0) J R := hc.ag hn a1 Ag.rf Ag.rf rfl
  obtain ⟨p1, p2, p3, p4, p5, p6⟩ := cth_c hc1 x1 x2 (Or.inl fx)
  obtain ⟨q1, q2, q3, q4, q5, q6⟩ := cth_c hc1 y1 y2 (Or.inl (by omega))
  have lx := (hg.2.2.1 x x1 x2).2.2.2.1 fx
  have ly := (hg.2.2.1 y y1 y2).2.2.2.1 (by omega)
  have nx : nC (G 1 x) (G 2 x) = G 2 x := if_pos fx
  have ny : nC (G 1 y) (G 2 y) = G 2 y := if_pos (by omega)
  rw [nx] at p4
  rw [ny] at q4
  have sx := (hg.2.2.1 x x1 x2).2.2.2.2.2.2.2.1 (Or.inl fx)
  have sy := (hg.2.2.1 y y1 y2).2.2.2.2.2.2.2.1 (Or.inl (by omega))
  rw [nx] at sx
  rw [ny] at sy
  obtain ⟨J', r1, r2, r3, r4⟩ := mvC (x := x) (y := y) (z := n) (i := p) (j := q) hg hc1 hn.2 x1 x2 y1 y2 (Or.inl fx) (Or.inl (by omega)) (by omega) (by omega) (fun _ => by omega)
  have a2 : Ag [(2000017, 2000018)] I (u2 (u2 I 4 17 0) 4 17 (Int32.ofInt n)) := Ag.st a1 rfl
  have a3 : Ag [(1000022, 1000023), (2000017, 2000018)] I (u2 (u2 (u2 I 4 17 0) 4 17 (Int32.ofInt n)) 114 22 0) := Ag.st (a2.mv rfl) rfl
  have m0 : TMo G C N (u2 (u2 (u2 I 4 17 0) 4 17 (Int32.ofInt n)) 114 22 0) J' := hm.kp (a3.kp rfl) (r4.kp rfl)
  obtain ⟨J2, s1, s2, s3⟩ := sh76_r (σ := σ) (R := R) (x := x) (y := y) (z := n) (i := p) (j := q) (by omega) (by omega) (by omega) n 0 FUx J' (by rw [FUx_eq]; omega) (by omega) m0 (fun q h => by omega)
  have m1' : TMo G (sft C (G 3 x + p) (G 3 y + q) 0) N (u2 (u2 (u2 I 4 17 0) 4 17 (Int32.ofInt n)) 114 22 0) J2 := by rw [sft_0]; exact m0.kp Kp.rf (s3.kp rfl)
  obtain ⟨I3, J3, u1', u2', u3, u4, u5⟩ := sh142_r (σ := σ) (R := R) (y := y) (z := n) (j := q) (by omega) (by omega) (by omega) n 0 FUx _ J2 (by rw [FUx_eq]; omega) (by omega) m1' s2 (u2s ⟨rfl, rfl⟩)
  have z0 : Int32.ofInt ((0 : Nat) : Int) = 0 := rfl
  rw [z0] at s1 u1'
  have aI : Ag [(1000022, 1000023), (2000017, 2000018)] I I3 := a3.tr (u4.mv rfl)
  have bJ : Ag [(119, 120), (128, 129)] J' J3 := (s3.mv rfl).tr (u5.mv rfl)
  refine tt (u2 (u2 I 4 17 0) 4 17 (Int32.ofInt n), J', R, Int32.ofInt n) (I3, J3, Int32.ofInt n) ?_ ?_ ⟨rfl, ?_, ⟨G, _, N, r2, ?_, u2'⟩, aI.mv rfl, (r4.mv rfl).tr (bJ.mv rfl), Ag.rf⟩
  · rw [sh_C c1 c2 e1 e2 p1 q1, k_shR p1 p6 q1 q6 fx fy, ob_some, if_neg n10, k_lenR p1 p6 p2 p3 p4 fx, ob_some, span_r (by omega) zx, if_neg n10, k_lenR q1 q6 q2 q3 q4 (by omega), ob_some, span_r (by omega) zy, if_neg n10, k_rowT p1 p6 fx, ob_some, if_neg n10, r1, ob_some]
  · show gX12_shift σ (u2 (u2 I 4 17 0) 4 17 (Int32.ofInt n)) J' R _ _ _ _ _ = _
    rw [sh_M (x := Int32.ofInt x) (y := Int32.ofInt y) c1 c2 (by rw [a2 115 _ rfl]; exact m1) (by rw [a2 115 _ rfl]; exact m2)]
    have f1 := (m0.2.2.1 x (by omega)).1
    have f2 := (m0.2.2.1 y (by omega)).1
    have f3 := (m0.2.2.1 x (by omega)).2.1
    have f4 := (m0.2.2.1 y (by omega)).2.1
    rw [k_agS x1 y1 (by omega) (by omega) f1 f2 (by omega) (by omega), if_pos (Or.inl ⟨fx, fy⟩), k_71 (by omega) (by omega) f3 f4 lx ly (by omega) (by omega) (by omega), if_pos (by omega), ob_some, if_pos rfl, k_rwT (by omega) f1 fx, ob_some, s1]
    exact u1'
  · refine sh_g (I' := I3) hs aI rfl ?_ ?_ ?_
    · rw [aI 4 13 rfl, aI 114 1 rfl]; exact hs.e1
    · rw [aI 4 14 rfl, aI 114 2 rfl]; exact hs.e2
    · rw [u3, u4 4 17 rfl]
      simp (disch := omega) only [u2n, u2s]
  · refine r3.ag hn (W := [(119, 120), (128, 129), (1000022, 1000023), (2000017, 2000018)]) (Ag.tr (Ag.st (Ag.st Ag.rf rfl) rfl) (u4.mv rfl)) (bJ.mv rfl) Ag.rf rfl
theorem c_shiftP {G : Nat → Nat → Nat} {C : Nat → Int64} {N : Nat → Nat → Int32} {σ : Shp} {I : Nat → Nat → Int32} {J : Nat → Nat → Int64} {R : Nat → Nat → Option Nat} {i o : Int} {x y p q n : Nat} (hn : 198 ≤ nxx σ ∧ nxx σ ≤ 900000) (hs : GScal I) (hg : TSg G C N) (hc : TCl G C N σ I J R) (hm : TMo G C N I J) (c1 : 0 ≤ i ∧ i ≤ 15) (c2 : 0 ≤ o ∧ o ≤ 15) (x1 : 1 ≤ x) (x2 : x ≤ G 10 0) (y1 : 1 ≤ y) (y2 : y ≤ G 10 0) (e1 : R 6 i.toNat = some (G 0 x)) (e2 : R 6 o.toNat = some (G 0 y)) (m1 : I 115 i.toNat = Int32.ofInt x) (m2 : I 115 o.toNat = Int32.ofInt y) (fx : 8 ≤ G 1 x ∧ G 1 x ≤ 15) (fy : 8 ≤ G 1 y ∧ G 1 y ≤ 15) (zx : p + n ≤ G 2 x) (zy : q + n ≤ G 2 y) : Tot (gX11_shift σ I J R (Int32.ofInt i) (Int32.ofInt p) (Int32.ofInt o) (Int32.ofInt q) (Int32.ofInt n)) (fun t => Tot (gX12_shift σ t.1 t.2.1 t.2.2.1 (Int32.ofInt i) (Int32.ofInt p) (Int32.ofInt o) (Int32.ofInt q) (Int32.ofInt n)) (fun t2 => t.2.2.2 = t2.2.2 ∧ TOut σ I t2.1 J t2.2.1 R t.2.2.1)) := by
  have h0 := hg.1
  have a1 : Ag [(2000017, 2000018)] I (u2 I 4 17 0) := Ag.st Ag.rf rfl
  have hc1 : TCl G C N σ (u2 I 4 17 0) J R := hc.ag hn a1 Ag.rf Ag.rf rfl
  have hm1 : TMo G C N (u2 I 4 17 0) J := hm.kp (a1.kp rfl) Kp.rf
  obtain ⟨p1, p2, p3, p4, p5, p6⟩ := cth_pl hc1 x1 x2 fx
  obtain ⟨q1, q2, q3, q4, q5, q6⟩ := cth_pl hc1 y1 y2 fy
  have lx := (hg.2.2.1 x x1 x2).2.2.2.2.1 fx.1
  have ly := (hg.2.2.1 y y1 y2).2.2.2.2.1 fy.1
  have sx := (hg.2.2.1 x x1 x2).2.2.2.2.2.2.2.2.1 fx.1 fx.2
  have sy := (hg.2.2.1 y y1 y2).2.2.2.2.2.2.2.2.1 fy.1 fy.2
  have z0 : Int32.ofInt ((0 : Nat) : Int) = 0 := rfl
  obtain ⟨m, -, mz, l1, l2, l3⟩ := leadT (i := p) (z := n) hg hc1 hm1 x1 x2 y1 y2 fx fy zx n 0 FUx (by rw [FUx_eq]; omega) (by omega)
  rw [z0] at l1
  have hv : ∀ k, k < n → G 4 (G 3 x + p + k) ≤ G 10 0 := fun k hk => by
    have := ((hg.2.2.1 x x1 x2).2.2.2.2.2.2.2.2.2.1 fx.1 fx.2 (p + k) (by omega)).1
    rw [← Nat.add_assoc] at this
    exact this
  obtain ⟨R', r1, r2, r3, r4⟩ := mvP (x := x) (y := y) (z := m) (i := p) (j := q) hg hc1 hn.2 x1 x2 y1 y2 fx fy (by omega) (by omega) (fun k hk => ⟨hv k (by omega), (l2 k (by omega) hk).2⟩)
  have base : ∀ IC : Nat → Nat → Int32, IC 4 17 = Int32.ofInt m → Ag [(2000013, 2000015), (2000017, 2000018)] I IC → ∃ (I3 : Nat → Nat → Int32) (J3 : Nat → Nat → Int64), gX12_shift σ IC J R' (Int32.ofInt i) (Int32.ofInt p) (Int32.ofInt o) (Int32.ofInt q) (Int32.ofInt n) = (if m = n then some (I3, J3, Int32.ofInt n) else some (noI I3 5, J3, mfail 5)) ∧ TMo (sfp G (G 3 x + p) (G 3 y + q) m) C N I3 J3 ∧ I3 114 22 = Int32.ofInt m ∧ Ag [(120, 121), (1000022, 1000023)] IC I3 ∧ Ag [(128, 129)] J J3 := by
    intro IC h17 ac
    have a3 : Ag [(1000022, 1000023), (2000013, 2000015), (2000017, 2000018)] I (u2 IC 114 22 0) := Ag.st (ac.mv rfl) rfl
    have m0 : TMo G C N (u2 IC 114 22 0) J := hm.kp (a3.kp rfl) Kp.rf
    obtain ⟨J2, s1, s2, s3⟩ := sh76_p (σ := σ) (R := R') (x := x) (y := y) (z := n) (i := p) (j := q) (by omega) (by omega) (by omega) n 0 FUx J (by rw [FUx_eq]; omega) (by omega) m0 (fun q h => by omega)
    have m1' : TMo (sfp G (G 3 x + p) (G 3 y + q) 0) C N (u2 IC 114 22 0) J2 := by rw [sfp_0]; exact m0.kp Kp.rf (s3.kp rfl)
    obtain ⟨I3, u1', u2', u3, u4⟩ := sh142_p (σ := σ) (R := R') (I0 := u2 IC 114 22 0) (G := G) (y := y) (z := n) (a := G 3 x + p) (j := q) (m := m) (by omega) (by omega) mz (by omega) (fun k hk => by have := hv k hk; omega) (fun k hk => by rw [isFor_o (I := u2 I 4 17 0) (fun q => by rw [u2n (by omega), ac 116 q rfl, u2n (by omega)]) (fun q => by rw [u2n (by omega), ac 122 q rfl, u2n (by omega)])]; exact (l2 k (by omega) hk).1) (fun h => by rw [isFor_o (I := u2 I 4 17 0) (fun q => by rw [u2n (by omega), ac 116 q rfl, u2n (by omega)]) (fun q => by rw [u2n (by omega), ac 122 q rfl, u2n (by omega)])]; exact l3 h) m 0 FUx _ J2 (by rw [FUx_eq]; omega) (by omega) m1' s2 (u2s ⟨rfl, rfl⟩) Ag.rf
    rw [z0] at s1 u1'
    refine ⟨I3, J2, ?_, u2', u3, Ag.tr (Ag.st Ag.rf rfl) u4, s3⟩
    rw [sh_M (x := Int32.ofInt x) (y := Int32.ofInt y) c1 c2 (by rw [ac 115 _ rfl]; exact m1) (by rw [ac 115 _ rfl]; exact m2)]
    have f1 := (m0.2.2.1 x (by omega)).1
    have f2 := (m0.2.2.1 y (by omega)).1
    have f3 := (m0.2.2.1 x (by omega)).2.1
    have f4 := (m0.2.2.1 y (by omega)).2.1
    rw [k_agS x1 y1 (by omega) (by omega) f1 f2 (by omega) (by omega), if_pos (Or.inr ⟨fx, fy⟩), k_71 (by omega) (by omega) f3 f4 (by omega) (by omega) (by omega) (by omega) (by omega), if_pos (by omega), ob_some, if_pos rfl, k_rwF (by omega) f1 (by omega), ob_some, s1]
    exact u1'
  have cl : gX11_shift σ I J R (Int32.ofInt i) (Int32.ofInt p) (Int32.ofInt o) (Int32.ofInt q) (Int32.ofInt n) = if Int32.ofInt (m : Int) = Int32.ofInt (n : Int) then some (u2 (u2 I 4 17 0) 4 17 (Int32.ofInt m), J, R', Int32.ofInt n) else some (fI (u2 (u2 I 4 17 0) 4 17 (Int32.ofInt m)) 5, J, R', mfail 5) := by
    rw [sh_C c1 c2 e1 e2 p1 q1, k_shP p1 p6 q1 q6 fx fy, ob_some, if_neg n10, k_lenP p1 p6 p2 p3 p4 (by omega), ob_some, span_r (by omega) zx, if_neg n10, k_lenP q1 q6 q2 q3 q4 (by omega), ob_some, span_r (by omega) zy, if_neg n10, k_rowF p1 p6 (by omega), ob_some, if_pos rfl]
    unfold gX11_leadTaken
    rw [l1, ob_some, r1, ob_some]
  have a2 : Ag [(2000017, 2000018)] (u2 I 4 17 0) (u2 (u2 I 4 17 0) 4 17 (Int32.ofInt m)) := Ag.st Ag.rf rfl
  by_cases c : m = n
  · obtain ⟨I3, J3, w1, w2, w3, w4, w5⟩ := base (u2 (u2 I 4 17 0) 4 17 (Int32.ofInt m)) (u2s ⟨rfl, rfl⟩) (Ag.tr (a1.mv rfl) (a2.mv rfl))
    rw [if_pos c] at w1
    have aI : Ag [(120, 121), (1000022, 1000023), (2000017, 2000018)] I I3 := Ag.tr (Ag.tr (a1.mv rfl) (a2.mv rfl)) (w4.mv rfl)
    refine tt (u2 (u2 I 4 17 0) 4 17 (Int32.ofInt m), J, R', Int32.ofInt n) (I3, J3, Int32.ofInt n) (by rw [cl, if_pos (by rw [c])]) w1 ⟨rfl, ?_, ⟨_, C, N, r2, ?_, w2⟩, aI.mv rfl, w5.mv rfl, r4.mv rfl⟩
    · refine sh_g (I' := I3) hs aI rfl ?_ ?_ ?_
      · rw [aI 4 13 rfl, aI 114 1 rfl]; exact hs.e1
      · rw [aI 4 14 rfl, aI 114 2 rfl]; exact hs.e2
      · rw [w3, w4 4 17 rfl]
        simp (disch := omega) only [u2n, u2s]
    · exact r3.ag hn (W := [(120, 121), (128, 129), (1000022, 1000023), (2000017, 2000018)]) (Ag.tr (a2.mv rfl) (w4.mv rfl)) (w5.mv rfl) Ag.rf rfl
  · have af : Ag [(2000013, 2000015)] (u2 (u2 I 4 17 0) 4 17 (Int32.ofInt m)) (fI (u2 (u2 I 4 17 0) 4 17 (Int32.ofInt m)) 5) := Ag.st (Ag.st Ag.rf rfl) rfl
    obtain ⟨I3, J3, w1, w2, w3, w4, w5⟩ := base (fI (u2 (u2 I 4 17 0) 4 17 (Int32.ofInt m)) 5) (by rw [af 4 17 rfl]; exact u2s ⟨rfl, rfl⟩) (Ag.tr (Ag.tr (a1.mv rfl) (a2.mv rfl)) (af.mv rfl))
    rw [if_neg c] at w1
    have an : Ag [(1000001, 1000003)] I3 (noI I3 5) := Ag.st (Ag.st Ag.rf rfl) rfl
    have ac : Ag [(120, 121), (1000001, 1000003), (1000022, 1000023), (2000013, 2000015), (2000017, 2000018)] (u2 I 4 17 0) (noI I3 5) := Ag.tr (Ag.tr (Ag.tr (a2.mv rfl) (af.mv rfl)) (w4.mv rfl)) (an.mv rfl)
    have aI : Ag [(120, 121), (1000001, 1000003), (1000022, 1000023), (2000013, 2000015), (2000017, 2000018)] I (noI I3 5) := Ag.tr (a1.mv rfl) ac
    refine tt (fI (u2 (u2 I 4 17 0) 4 17 (Int32.ofInt m)) 5, J, R', mfail 5) (noI I3 5, J3, mfail 5) (by rw [cl, if_neg (by rw [i_eq (by omega) (by omega)]; omega)]) w1 ⟨rfl, ?_, ⟨_, C, N, r2, ?_, w2.kp (an.kp rfl) Kp.rf⟩, aI.mv rfl, w5.mv rfl, r4.mv rfl⟩
    · refine sh_g (I' := noI I3 5) hs aI rfl ?_ ?_ ?_
      · have e3 : noI I3 5 4 13 = I 4 13 + 1 := by
          rw [an 4 13 rfl, w4 4 13 rfl]
          unfold fI
          simp (disch := omega) only [u2n, u2s]
        have e4 : noI I3 5 114 1 = I3 114 1 + 1 := by
          unfold noI
          simp (disch := omega) only [u2n, u2s]
        rw [e3, e4, w4 114 1 rfl, af 114 1 rfl, a2 114 1 rfl, a1 114 1 rfl, hs.e1]
      · have e3 : noI I3 5 4 14 = 5 := by
          rw [an 4 14 rfl, w4 4 14 rfl]
          unfold fI
          simp (disch := omega) only [u2n, u2s]
        rw [e3]
        unfold noI
        simp (disch := omega) only [u2n, u2s]
      · rw [an 4 17 rfl, an 114 22 rfl, w3, w4 4 17 rfl, af 4 17 rfl]
        simp (disch := omega) only [u2n, u2s]
    · exact r3.ag hn (W := [(120, 121), (128, 129), (1000001, 1000003), (1000022, 1000023), (2000013, 2000015), (2000017, 2000018)]) (ac.mv rfl) (w5.mv rfl) Ag.rf rfl
theorem c_shift {σ : Shp} {I : Nat → Nat → Int32} {J : Nat → Nat → Int64} {R : Nat → Nat → Option Nat} {x1 x2 x3 x4 x5 : Int32} (hS : Skel σ R) (hn' : nxx σ ≤ 900000) (hs : GScal I) (hT : GThing σ I J R) : Tot (gX11_shift σ I J R x1 x2 x3 x4 x5) (fun t => Tot (gX12_shift σ t.1 t.2.1 t.2.2.1 x1 x2 x3 x4 x5) (fun t2 => t.2.2.2 = t2.2.2 ∧ TOut σ I t2.1 J t2.2.1 R t.2.2.1)) := by
  obtain ⟨i, hi1, hi2, rfl⟩ := rep x1
  obtain ⟨p, hp1, hp2, rfl⟩ := rep x2
  obtain ⟨o, ho1, ho2, rfl⟩ := rep x3
  obtain ⟨q, hq1, hq2, rfl⟩ := rep x4
  obtain ⟨n, hn1, hn2, rfl⟩ := rep x5
  obtain ⟨G, C, N, hg, hc, hm⟩ := id hT
  have hn : 198 ≤ nxx σ ∧ nxx σ ≤ 900000 := ⟨hS.1, hn'⟩
  have h40 := hg.1.1
  by_cases c1 : 0 ≤ i ∧ i ≤ 15
  case neg =>
    exact tt (I, J, R, -2) (I, J, -2) (by unfold gX11_shift; simp (disch := omega) only [fail_r, no_r, nob_r, fI_o, Nat.reduceLeDiff, ↓reduceIte, not_true_eq_false, not_false_eq_true, false_imp_iff, true_imp_iff, and_true, true_and, and_self, implies_true, false_or, or_false, true_or, or_true, d10, d01, d00, d11, g_tn, Tot_some, Tot_none, Tot_ite, Tot_bind, ob_some, onl_n, onl_s, nat32, Int.toNat_natCast, i_add, i_sub, i_mul, i_addl, i_addr, i_subl, i_subr, i_mulr, i_addn, i_gd, i_tn, i_w, i_ltlT, i_ltlF, i_ltrT, i_ltrF, i_lelT, i_lelF, i_lerT, i_lerF, i_eqlT, i_eqlF, i_eqrT, i_eqrF, i_ltnT, i_ltnF, i_lenT, i_lenF, i_eqnT, i_eqnF, i_ltT, i_ltF, i_leT, i_leF, i_eqT, i_eqF, j_ltlT, j_ltlF, j_ltrT, j_ltrF, j_lelT, j_lelF, j_lerT, j_lerF, j_eqlT, j_eqlF, j_ltT, j_ltF, j_leT, j_leF, j_eqT, j_eqF, i_mull, l_tn, l_lt0, l_ne0, nleF, tX11_isStockT, tX11_isStockF, tX11_isBinT, tX11_isBinF, tX11_isPlanT, tX11_isPlanF, tX11_isValveT, tX11_isValveF, tX11_isLaneT, tX11_isLaneF, tX11_isGridFormT, tX11_isGridFormF, tX11_isFormT, tX11_isFormF, tX11_isTrayFormT, tX11_isTrayFormF, tX11_isPlacesFormT, tX11_isPlacesFormF, tX11_isTableT, tX11_isTableF, tX11_isProbeT, tX11_isProbeF, tX11_isHouseT, tX11_isHouseF, tX11_isPestT, tX11_isPestF, tX11_isStageT, tX11_isStageF, tX11_isPartT, tX11_isPartF, tX12_isBinT, tX12_isBinF, tX12_isTableT, tX12_isTableF, tX12_inT, tX12_inF, tX12_innT, tX12_innF, tX12_ingT, tX12_ingF, tX12_isStageT, tX12_isStageF, tX1_isByteT, tX1_isByteF]) (by unfold gX12_shift; simp (disch := omega) only [fail_r, no_r, nob_r, fI_o, Nat.reduceLeDiff, ↓reduceIte, not_true_eq_false, not_false_eq_true, false_imp_iff, true_imp_iff, and_true, true_and, and_self, implies_true, false_or, or_false, true_or, or_true, d10, d01, d00, d11, g_tn, Tot_some, Tot_none, Tot_ite, Tot_bind, ob_some, onl_n, onl_s, nat32, Int.toNat_natCast, i_add, i_sub, i_mul, i_addl, i_addr, i_subl, i_subr, i_mulr, i_addn, i_gd, i_tn, i_w, i_ltlT, i_ltlF, i_ltrT, i_ltrF, i_lelT, i_lelF, i_lerT, i_lerF, i_eqlT, i_eqlF, i_eqrT, i_eqrF, i_ltnT, i_ltnF, i_lenT, i_lenF, i_eqnT, i_eqnF, i_ltT, i_ltF, i_leT, i_leF, i_eqT, i_eqF, j_ltlT, j_ltlF, j_ltrT, j_ltrF, j_lelT, j_lelF, j_lerT, j_lerF, j_eqlT, j_eqlF, j_ltT, j_ltF, j_leT, j_leF, j_eqT, j_eqF, i_mull, l_tn, l_lt0, l_ne0, nleF, tX11_isStockT, tX11_isStockF, tX11_isBinT, tX11_isBinF, tX11_isPlanT, tX11_isPlanF, tX11_isValveT, tX11_isValveF, tX11_isLaneT, tX11_isLaneF, tX11_isGridFormT, tX11_isGridFormF, tX11_isFormT, tX11_isFormF, tX11_isTrayFormT, tX11_isTrayFormF, tX11_isPlacesFormT, tX11_isPlacesFormF, tX11_isTableT, tX11_isTableF, tX11_isProbeT, tX11_isProbeF, tX11_isHouseT, tX11_isHouseF, tX11_isPestT, tX11_isPestF, tX11_isStageT, tX11_isStageF, tX11_isPartT, tX11_isPartF, tX12_isBinT, tX12_isBinF, tX12_isTableT, tX12_isTableF, tX12_inT, tX12_inF, tX12_innT, tX12_innF, tX12_ingT, tX12_ingF, tX12_isStageT, tX12_isStageF, tX1_isByteT, tX1_isByteF]) ⟨rfl, tout_rf hs hT⟩
  by_cases c2 : 0 ≤ o ∧ o ≤ 15
  case neg =>
    exact tt (I, J, R, -2) (I, J, -2) (by unfold gX11_shift; simp (disch := omega) only [fail_r, no_r, nob_r, fI_o, Nat.reduceLeDiff, ↓reduceIte, not_true_eq_false, not_false_eq_true, false_imp_iff, true_imp_iff, and_true, true_and, and_self, implies_true, false_or, or_false, true_or, or_true, d10, d01, d00, d11, g_tn, Tot_some, Tot_none, Tot_ite, Tot_bind, ob_some, onl_n, onl_s, nat32, Int.toNat_natCast, i_add, i_sub, i_mul, i_addl, i_addr, i_subl, i_subr, i_mulr, i_addn, i_gd, i_tn, i_w, i_ltlT, i_ltlF, i_ltrT, i_ltrF, i_lelT, i_lelF, i_lerT, i_lerF, i_eqlT, i_eqlF, i_eqrT, i_eqrF, i_ltnT, i_ltnF, i_lenT, i_lenF, i_eqnT, i_eqnF, i_ltT, i_ltF, i_leT, i_leF, i_eqT, i_eqF, j_ltlT, j_ltlF, j_ltrT, j_ltrF, j_lelT, j_lelF, j_lerT, j_lerF, j_eqlT, j_eqlF, j_ltT, j_ltF, j_leT, j_leF, j_eqT, j_eqF, i_mull, l_tn, l_lt0, l_ne0, nleF, tX11_isStockT, tX11_isStockF, tX11_isBinT, tX11_isBinF, tX11_isPlanT, tX11_isPlanF, tX11_isValveT, tX11_isValveF, tX11_isLaneT, tX11_isLaneF, tX11_isGridFormT, tX11_isGridFormF, tX11_isFormT, tX11_isFormF, tX11_isTrayFormT, tX11_isTrayFormF, tX11_isPlacesFormT, tX11_isPlacesFormF, tX11_isTableT, tX11_isTableF, tX11_isProbeT, tX11_isProbeF, tX11_isHouseT, tX11_isHouseF, tX11_isPestT, tX11_isPestF, tX11_isStageT, tX11_isStageF, tX11_isPartT, tX11_isPartF, tX12_isBinT, tX12_isBinF, tX12_isTableT, tX12_isTableF, tX12_inT, tX12_inF, tX12_innT, tX12_innF, tX12_ingT, tX12_ingF, tX12_isStageT, tX12_isStageF, tX1_isByteT, tX1_isByteF]) (by unfold gX12_shift; simp (disch := omega) only [fail_r, no_r, nob_r, fI_o, Nat.reduceLeDiff, ↓reduceIte, not_true_eq_false, not_false_eq_true, false_imp_iff, true_imp_iff, and_true, true_and, and_self, implies_true, false_or, or_false, true_or, or_true, d10, d01, d00, d11, g_tn, Tot_some, Tot_none, Tot_ite, Tot_bind, ob_some, onl_n, onl_s, nat32, Int.toNat_natCast, i_add, i_sub, i_mul, i_addl, i_addr, i_subl, i_subr, i_mulr, i_addn, i_gd, i_tn, i_w, i_ltlT, i_ltlF, i_ltrT, i_ltrF, i_lelT, i_lelF, i_lerT, i_lerF, i_eqlT, i_eqlF, i_eqrT, i_eqrF, i_ltnT, i_ltnF, i_lenT, i_lenF, i_eqnT, i_eqnF, i_ltT, i_ltF, i_leT, i_leF, i_eqT, i_eqF, j_ltlT, j_ltlF, j_ltrT, j_ltrF, j_lelT, j_lelF, j_lerT, j_lerF, j_eqlT, j_eqlF, j_ltT, j_ltF, j_leT, j_leF, j_eqT, j_eqF, i_mull, l_tn, l_lt0, l_ne0, nleF, tX11_isStockT, tX11_isStockF, tX11_isBinT, tX11_isBinF, tX11_isPlanT, tX11_isPlanF, tX11_isValveT, tX11_isValveF, tX11_isLaneT, tX11_isLaneF, tX11_isGridFormT, tX11_isGridFormF, tX11_isFormT, tX11_isFormF, tX11_isTrayFormT, tX11_isTrayFormF, tX11_isPlacesFormT, tX11_isPlacesFormF, tX11_isTableT, tX11_isTableF, tX11_isProbeT, tX11_isProbeF, tX11_isHouseT, tX11_isHouseF, tX11_isPestT, tX11_isPestF, tX11_isStageT, tX11_isStageF, tX11_isPartT, tX11_isPartF, tX12_isBinT, tX12_isBinF, tX12_isTableT, tX12_isTableF, tX12_inT, tX12_inF, tX12_innT, tX12_innF, tX12_ingT, tX12_ingF, tX12_isStageT, tX12_isStageF, tX1_isByteT, tX1_isByteF]) ⟨rfl, tout_rf hs hT⟩
  have fM : ∀ (c : Int32), c ≠ 0 → gX12_againstShift σ (u2 (fI (u2 I 4 17 0) c) 114 22 0) R (I 115 i.toNat) (Int32.ofInt p) (I 115 o.toNat) (Int32.ofInt q) (Int32.ofInt n) = some c → gX12_shift σ (fI (u2 I 4 17 0) c) J R (Int32.ofInt i) (Int32.ofInt p) (Int32.ofInt o) (Int32.ofInt q) (Int32.ofInt n) = some (noI (u2 (fI (u2 I 4 17 0) c) 114 22 0) c, J, mfail c) := by
    intro c hc0 h
    have o1 : ∀ b : Nat, fI (u2 I 4 17 0) c 115 b = I 115 b := fun b => by unfold fI; rw [u2n (by omega), u2n (by omega), u2n (by omega)]
    rw [sh_M c1 c2 (o1 _) (o1 _), h, ob_some, if_neg hc0]
  have o6 : ∀ (c : Int32) (b k : Nat), b = 116 ∨ b = 117 → u2 (fI (u2 I 4 17 0) c) 114 22 0 b k = I b k := fun c b k h => by unfold fI; rw [u2n (by omega), u2n (by omega), u2n (by omega), u2n (by omega)]
  rcases th_bin hg hc hm c1 with ⟨e0, e1, e2⟩ | ⟨x, x1, x2, x3, e0, e1, e2⟩
  · refine tt (fI (u2 I 4 17 0) 1, J, R, mfail 1) (noI (u2 (fI (u2 I 4 17 0) 1) 114 22 0) 1, J, mfail 1) ?_ (fM 1 (by decide) ?_) ⟨rfl, tout_sh hn hs hT⟩
    · unfold gX11_shift
      simp (disch := omega) only [fail_r, no_r, nob_r, fI_o, Nat.reduceLeDiff, ↓reduceIte, not_true_eq_false, not_false_eq_true, false_imp_iff, true_imp_iff, and_true, true_and, and_self, implies_true, false_or, or_false, true_or, or_true, d10, d01, d00, d11, g_tn, Tot_some, Tot_none, Tot_ite, Tot_bind, ob_some, onl_n, onl_s, nat32, Int.toNat_natCast, i_add, i_sub, i_mul, i_addl, i_addr, i_subl, i_subr, i_mulr, i_addn, i_gd, i_tn, i_w, i_ltlT, i_ltlF, i_ltrT, i_ltrF, i_lelT, i_lelF, i_lerT, i_lerF, i_eqlT, i_eqlF, i_eqrT, i_eqrF, i_ltnT, i_ltnF, i_lenT, i_lenF, i_eqnT, i_eqnF, i_ltT, i_ltF, i_leT, i_leF, i_eqT, i_eqF, j_ltlT, j_ltlF, j_ltrT, j_ltrF, j_lelT, j_lelF, j_lerT, j_lerF, j_eqlT, j_eqlF, j_ltT, j_ltF, j_leT, j_leF, j_eqT, j_eqF, i_mull, l_tn, l_lt0, l_ne0, nleF, tX11_isStockT, tX11_isStockF, tX11_isBinT, tX11_isBinF, tX11_isPlanT, tX11_isPlanF, tX11_isValveT, tX11_isValveF, tX11_isLaneT, tX11_isLaneF, tX11_isGridFormT, tX11_isGridFormF, tX11_isFormT, tX11_isFormF, tX11_isTrayFormT, tX11_isTrayFormF, tX11_isPlacesFormT, tX11_isPlacesFormF, tX11_isTableT, tX11_isTableF, tX11_isProbeT, tX11_isProbeF, tX11_isHouseT, tX11_isHouseF, tX11_isPestT, tX11_isPestF, tX11_isStageT, tX11_isStageF, tX11_isPartT, tX11_isPartF, tX12_isBinT, tX12_isBinF, tX12_isTableT, tX12_isTableF, tX12_inT, tX12_inF, tX12_innT, tX12_innF, tX12_ingT, tX12_ingF, tX12_isStageT, tX12_isStageF, tX1_isByteT, tX1_isByteF, e2]
    · rw [e1]
      unfold gX12_againstShift
      rw [if_pos (by decide)]
  rcases th_bin hg hc hm c2 with ⟨d0, d1, d2⟩ | ⟨y, y1, y2, y3, d0, d1, d2⟩
  · refine tt (fI (u2 I 4 17 0) 1, J, R, mfail 1) (noI (u2 (fI (u2 I 4 17 0) 1) 114 22 0) 1, J, mfail 1) ?_ (fM 1 (by decide) ?_) ⟨rfl, tout_sh hn hs hT⟩
    · unfold gX11_shift
      simp (disch := omega) only [fail_r, no_r, nob_r, fI_o, Nat.reduceLeDiff, ↓reduceIte, not_true_eq_false, not_false_eq_true, false_imp_iff, true_imp_iff, and_true, true_and, and_self, implies_true, false_or, or_false, true_or, or_true, d10, d01, d00, d11, g_tn, Tot_some, Tot_none, Tot_ite, Tot_bind, ob_some, onl_n, onl_s, nat32, Int.toNat_natCast, i_add, i_sub, i_mul, i_addl, i_addr, i_subl, i_subr, i_mulr, i_addn, i_gd, i_tn, i_w, i_ltlT, i_ltlF, i_ltrT, i_ltrF, i_lelT, i_lelF, i_lerT, i_lerF, i_eqlT, i_eqlF, i_eqrT, i_eqrF, i_ltnT, i_ltnF, i_lenT, i_lenF, i_eqnT, i_eqnF, i_ltT, i_ltF, i_leT, i_leF, i_eqT, i_eqF, j_ltlT, j_ltlF, j_ltrT, j_ltrF, j_lelT, j_lelF, j_lerT, j_lerF, j_eqlT, j_eqlF, j_ltT, j_ltF, j_leT, j_leF, j_eqT, j_eqF, i_mull, l_tn, l_lt0, l_ne0, nleF, tX11_isStockT, tX11_isStockF, tX11_isBinT, tX11_isBinF, tX11_isPlanT, tX11_isPlanF, tX11_isValveT, tX11_isValveF, tX11_isLaneT, tX11_isLaneF, tX11_isGridFormT, tX11_isGridFormF, tX11_isFormT, tX11_isFormF, tX11_isTrayFormT, tX11_isTrayFormF, tX11_isPlacesFormT, tX11_isPlacesFormF, tX11_isTableT, tX11_isTableF, tX11_isProbeT, tX11_isProbeF, tX11_isHouseT, tX11_isHouseF, tX11_isPestT, tX11_isPestF, tX11_isStageT, tX11_isStageF, tX11_isPartT, tX11_isPartF, tX12_isBinT, tX12_isBinF, tX12_isTableT, tX12_isTableF, tX12_inT, tX12_inF, tX12_innT, tX12_innF, tX12_ingT, tX12_ingF, tX12_isStageT, tX12_isStageF, tX1_isByteT, tX1_isByteF, e2, d2]
    · rw [e1, d1]
      unfold gX12_againstShift
      rw [if_neg (by rw [i_eql (by omega)]; omega), if_pos (by decide)]
  have a1 : Ag [(2000017, 2000018)] I (u2 I 4 17 0) := Ag.st Ag.rf rfl
  have hc1 : TCl G C N σ (u2 I 4 17 0) J R := hc.ag hn a1 Ag.rf Ag.rf rfl
  obtain ⟨⟨p1, -⟩, ⟨p6, -⟩, -⟩ := hc1.2.2.1 x x1 x2
  obtain ⟨⟨q1, -⟩, ⟨q6, -⟩, -⟩ := hc1.2.2.1 y y1 y2
  have fx := (hg.2.2.1 x x1 x2).1
  have fy := (hg.2.2.1 y y1 y2).1
  obtain ⟨f1, f2, -⟩ := hm.2.2.1 x (by omega)
  obtain ⟨f3, f4, -⟩ := hm.2.2.1 y (by omega)
  have ca : ∀ c : Int32, gX12_againstShift σ (u2 (fI (u2 I 4 17 0) c) 114 22 0) R (I 115 i.toNat) (Int32.ofInt p) (I 115 o.toNat) (Int32.ofInt q) (Int32.ofInt n) = if (G 1 x ≤ 7 ∧ G 1 y = G 1 x) ∨ ((8 ≤ G 1 x ∧ G 1 x ≤ 15) ∧ (8 ≤ G 1 y ∧ G 1 y ≤ 15)) then some (if (0 ≤ p ∧ 0 ≤ n ∧ p + n ≤ G 2 x) ∧ (0 ≤ q ∧ 0 ≤ n ∧ q + n ≤ G 2 y) then 0 else 2) else some 5 := by
    intro c
    have z1 := (hg.2.2.1 x x1 x2).2.2.2.1
    have z2 := (hg.2.2.1 x x1 x2).2.2.2.2.1
    have z3 := (hg.2.2.1 y y1 y2).2.2.2.1
    have z4 := (hg.2.2.1 y y1 y2).2.2.2.2.1
    rw [e1, d1, k_agS x1 y1 (by omega) (by omega) (by rw [o6 c 116 _ (Or.inl rfl)]; exact f1) (by rw [o6 c 116 _ (Or.inl rfl)]; exact f3) fx fy, k_71 (by omega) (by omega) (by rw [o6 c 117 _ (Or.inr rfl)]; exact f2) (by rw [o6 c 117 _ (Or.inr rfl)]; exact f4) (by omega) (by omega) (by omega) (by omega) (by omega)]
  by_cases w : (G 1 x ≤ 7 ∧ G 1 y = G 1 x) ∨ ((8 ≤ G 1 x ∧ G 1 x ≤ 15) ∧ (8 ≤ G 1 y ∧ G 1 y ≤ 15))
  case neg =>
    refine tt (fI (u2 I 4 17 0) 5, J, R, mfail 5) (noI (u2 (fI (u2 I 4 17 0) 5) 114 22 0) 5, J, mfail 5) ?_ (fM 5 (by decide) (by rw [ca, if_neg w])) ⟨rfl, tout_sh hn hs hT⟩
    rw [sh_C c1 c2 e2 d2 p1 q1, k_sh0 p1 p6 q1 q6 fx fy (fun h => w (Or.inl h)) (fun h => w (Or.inr h)), ob_some, if_pos rfl]
  have sh1 : gX11_shiftable σ (u2 I 4 17 0) (some (G 0 x)) (some (G 0 y)) = some 1 := by
    rcases w with ⟨h1, h2⟩ | ⟨h1, h2⟩
    · exact k_shR p1 p6 q1 q6 h1 h2
    · exact k_shP p1 p6 q1 q6 h1 h2
  have ln : ∀ t, 1 ≤ t → t ≤ G 10 0 → G 1 t ≤ 15 → gX10_length σ (u2 I 4 17 0) R (G 0 t) = some (Int32.ofInt (G 2 t)) ∧ G 2 t ≤ 1000 := by
    intro t t1 t2 ft
    have z1 := (hg.2.2.1 t t1 t2).2.2.2.1
    have z2 := (hg.2.2.1 t t1 t2).2.2.2.2.1
    by_cases h : G 1 t ≤ 7
    · obtain ⟨r1, r2, r3, r4, -, r6⟩ := cth_c hc1 t1 t2 (Or.inl h)
      rw [show nC (G 1 t) (G 2 t) = G 2 t from if_pos h] at r4
      exact ⟨k_lenR r1 r6 r2 r3 r4 h, by omega⟩
    · obtain ⟨r1, r2, r3, r4, -, r6⟩ := cth_pl hc1 t1 t2 (by omega)
      exact ⟨k_lenP r1 r6 r2 r3 r4 (by omega), by omega⟩
  obtain ⟨l1, b1⟩ := ln x x1 x2 (by omega)
  obtain ⟨l2, b2⟩ := ln y y1 y2 (by omega)
  by_cases v1 : 0 ≤ p ∧ 0 ≤ n ∧ p + n ≤ G 2 x
  case neg =>
    refine tt (fI (u2 I 4 17 0) 2, J, R, mfail 2) (noI (u2 (fI (u2 I 4 17 0) 2) 114 22 0) 2, J, mfail 2) ?_ (fM 2 (by decide) (by rw [ca, if_pos w, if_neg (fun h => v1 h.1)])) ⟨rfl, tout_sh hn hs hT⟩
    rw [sh_C c1 c2 e2 d2 p1 q1, sh1, ob_some, if_neg n10, l1, ob_some, span_F b1 (by omega) (by omega) v1, if_pos rfl]
  by_cases v2 : 0 ≤ q ∧ 0 ≤ n ∧ q + n ≤ G 2 y
  case neg =>
    obtain ⟨p', rfl⟩ : ∃ k : Nat, p = (k : Int) := ⟨p.toNat, by omega⟩
    obtain ⟨n', rfl⟩ : ∃ k : Nat, n = (k : Int) := ⟨n.toNat, by omega⟩
    refine tt (fI (u2 I 4 17 0) 2, J, R, mfail 2) (noI (u2 (fI (u2 I 4 17 0) 2) 114 22 0) 2, J, mfail 2) ?_ (fM 2 (by decide) (by rw [ca, if_pos w, if_neg (fun h => v2 h.2)])) ⟨rfl, tout_sh hn hs hT⟩
    rw [sh_C c1 c2 e2 d2 p1 q1, sh1, ob_some, if_neg n10, l1, ob_some, span_r b1 (by omega), if_neg n10, l2, ob_some, span_F b2 (by omega) (by omega) v2, if_pos rfl]
  obtain ⟨p', rfl⟩ : ∃ k : Nat, p = (k : Int) := ⟨p.toNat, by omega⟩
  obtain ⟨q', rfl⟩ : ∃ k : Nat, q = (k : Int) := ⟨q.toNat, by omega⟩
  obtain ⟨n', rfl⟩ : ∃ k : Nat, n = (k : Int) := ⟨n.toNat, by omega⟩
  rcases w with ⟨h1, h2⟩ | ⟨h1, h2⟩
  · exact c_shiftR hn hs hg hc hm c1 c2 x1 x2 y1 y2 e2 d2 e1 d1 h1 h2 (by omega) (by omega)
  · exact c_shiftP hn hs hg hc hm c1 c2 x1 x2 y1 y2 e2 d2 e1 d1 h1 h2 (by omega) (by omega)
