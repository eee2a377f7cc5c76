/-! ===== a run, the call itself ===== -/
theorem Kp.wi {α : Type} {C D : List (Nat × Nat)} {f g : Nat → Nat → α} (h : Kp D f g) (s : ∀ t ∈ C, ∃ u ∈ D, u.1 ≤ t.1 ∧ t.2 ≤ u.2) : Kp C f g := fun a k ha => h a k (by
  obtain ⟨t, t1, t2, t3⟩ := inW_iff.mp ha
  obtain ⟨u, u1, u2, u3⟩ := s t t1
  exact inW_iff.mpr ⟨u, u1, by omega, by omega⟩)
theorem c_run {σ : Shp} {I : Nat → Nat → Int32} {J : Nat → Nat → Int64} {R : Nat → Nat → Option Nat} {x1 : Int32} (hn : nxx σ ≤ 700000) (hs : GScal I) (hT : GThing σ I J R) (hP : GPlan I) (hSt : GStore I J) (hTr : GTrace I) (hRn : GRan I) (hF : GFrm σ R) (hS : Skel σ R) : Tot (gX11_run σ I J R x1) (fun t => Tot (gX12_run t.1 t.2.1 t.2.2.1 t.2.2.2.1 x1) (fun t2 => t.2.2.2.2 = t2.2.2 ∧ GRunF t.1 t2.1 t2.2.1 t.2.2.2.1 ∧ Ag WRun I t2.1 ∧ Ag WRun J t2.2.1 ∧ Ag WRun R t.2.2.2.1 ∧ nxx t.1 ≤ nxx σ + 700 ∧ slx t.1 ≤ slx σ + 6000)) := by
  obtain ⟨i, hi1, hi2, rfl⟩ := rep x1
  have n1 := hS.1
  by_cases c1 : 0 ≤ i ∧ i ≤ 3
  case neg =>
    exact tt (σ, I, J, R, -2) (I, J, -2) (by unfold gX11_run; rw [tX11_isPlanF (by omega), if_pos rfl]) (by show gX12_run σ I J R _ = _; unfold gX12_run; rw [tX12_inF (by omega), if_pos rfl]) ⟨rfl, ⟨hs, hT, hP, hSt, hTr, hRn, hF, hS⟩, Ag.rf, Ag.rf, Ag.rf, by show nxx σ ≤ nxx σ + 700; omega, by show slx σ ≤ slx σ + 6000; omega⟩
  obtain ⟨p, rfl⟩ : ∃ k : Nat, i = (k : Int) := ⟨i.toNat, by omega⟩
  have p4 : p < 4 := by omega
  obtain ⟨n, O, A, hb, P1, P2⟩ := hP.pl
  obtain ⟨vd, hvd⟩ : ∃ vd : Nat → Int32, ∀ q, q < 4 → Vd n O A q (vd q) := by
    have : ∀ q, ∃ v, q < 4 → Vd n O A q v := fun q => by
      by_cases hq : q < 4
      · obtain ⟨v, hv⟩ := Vd.ex P1 P2 hb hq
        exact ⟨v, fun _ => hv⟩
      · exact ⟨0, fun z => absurd z hq⟩
    exact ⟨fun q => Classical.choose (this q), fun q hq => Classical.choose_spec (this q) hq⟩
  obtain ⟨I1, f1, f2, f3, f4⟩ := (hvd p p4).1 σ R I P1 P2
  have eC : gX11_run σ I J R (Int32.ofInt (p : Int)) = if vd p = -1 then (gX11_isFull I1).bind fun r4 => if r4 = 0 then (gX7_wholeRun σ I1 J R (Int32.ofInt (p : Int))).bind fun (σ6, I7, J8, R9, r10) => gX11_run_b43 σ6 I7 J8 R9 r10 else some (σ, I1, J, R, -4) else some (σ, I1, J, R, -3) := by
    unfold gX11_run
    rw [tX11_isPlanT (by omega), if_neg n10, f1, ob_some]
  have eM : ∀ (s : Shp) (K : Nat → Nat → Int32) (L : Nat → Nat → Int64) (Q : Nat → Nat → Option Nat), PlM n O A K → ∃ K1, Ag [(142, 143)] K K1 ∧ gX12_run s K L Q (Int32.ofInt (p : Int)) = if vd p = -1 then (gX12_isFull K1).bind fun r4 => if r4 = 0 then (gX12_push (rsM K1 p) 21).bind fun I17 => gX12_run_l95 s Q FUx I17 L else some (K1, L, -4) else some (K1, L, -3) := fun s K L Q hK => by
    obtain ⟨K1, k1, k2⟩ := (hvd p p4).2 s Q K hK
    refine ⟨K1, k2, ?_⟩
    unfold gX12_run
    rw [tX12_inT (by omega), if_neg n10, k1, ob_some]
    rfl
  have keep : ∀ K1, Ag [(15, 17), (142, 143)] I K1 → GRunF σ K1 J R := fun K1 a => by
    obtain ⟨G, C, N, hg, hc, hm⟩ := id hT
    exact ⟨hs.kp (a.kp rfl), ⟨G, C, N, hg, hc.ag ⟨n1, by omega⟩ a Ag.rf Ag.rf rfl, hm.kp (a.kp rfl) Kp.rf⟩, hP.kp (a.kp rfl), hSt.kp (a.kp rfl) Kp.rf, hTr.kp (a.kp rfl), hRn.kp (a.kp rfl), hF, hS⟩
  by_cases z1 : vd p = -1
  case neg =>
    rw [if_neg z1] at eC
    obtain ⟨K1, k1, k2⟩ := eM σ I1 J R (P2.kp (f2.kp rfl))
    rw [if_neg z1] at k2
    have a : Ag [(15, 17), (142, 143)] I K1 := (f2.mv rfl).tr (k1.mv rfl)
    exact tt (σ, I1, J, R, -3) (K1, J, -3) eC k2 ⟨rfl, keep K1 a, a.mv rfl, Ag.rf, Ag.rf, by show nxx σ ≤ nxx σ + 700; omega, by show slx σ ≤ slx σ + 6000; omega⟩
  rw [if_pos z1] at eC
  obtain ⟨wf, bd⟩ := f3 z1
  -- both are full alike
  have fl : ∀ K : Nat → Nat → Int32, ∃ v, gX11_isFull K = some v ∧ (v = 0 ∨ v = 1) ∧ ∀ K' : Nat → Nat → Int32, K' 114 1 = K 4 13 → K' 114 0 = K 4 12 → gX12_isFull K' = some v := fun K => by
    unfold gX11_isFull gX12_isFull
    by_cases q1 : 3000 ≤ K 4 13
    · exact ⟨1, by rw [if_pos q1], Or.inr rfl, fun K' e1 e2 => by rw [e1, if_pos q1]⟩
    · by_cases q2 : K 4 12 < 4000
      · exact ⟨0, by rw [if_neg q1, if_pos q2], Or.inl rfl, fun K' e1 e2 => by rw [e1, e2, if_neg q1, if_pos q2]⟩
      · exact ⟨1, by rw [if_neg q1, if_neg q2], Or.inr rfl, fun K' e1 e2 => by rw [e1, e2, if_neg q1, if_neg q2]⟩
  obtain ⟨v, v1, v2, v3⟩ := fl I1
  rw [v1, ob_some] at eC
  by_cases z2 : v = 0
  case neg =>
    rw [if_neg z2] at eC
    obtain ⟨K1, k1, k2⟩ := eM σ I1 J R (P2.kp (f2.kp rfl))
    rw [if_pos z1, v3 K1 (by rw [k1 114 1 rfl, f2 114 1 rfl, f2 4 13 rfl]; exact hs.e1.symm) (by rw [k1 114 0 rfl, f2 114 0 rfl, f2 4 12 rfl]; exact hs.e0.symm), ob_some, if_neg z2] at k2
    have a : Ag [(15, 17), (142, 143)] I K1 := (f2.mv rfl).tr (k1.mv rfl)
    exact tt (σ, I1, J, R, -4) (K1, J, -4) eC k2 ⟨rfl, keep K1 a, a.mv rfl, Ag.rf, Ag.rf, by show nxx σ ≤ nxx σ + 700; omega, by show slx σ ≤ slx σ + 6000; omega⟩
  rw [if_pos z2, wrC] at eC
  obtain ⟨G, C, N, hg, hc, hm⟩ := id hT
  obtain ⟨F, hFu⟩ : ∃ F, FUx = F := ⟨_, rfl⟩
  have hF' : F = 2000000 := by rw [← hFu, FUx_eq]
  -- both runs, for any memory of the model
  have go : ∀ (σ' : Shp) (R' : Nat → Nat → Option Nat) (K : Nat → Nat → Int32) (L : Nat → Nat → Int64), Skel σ' R' → Kp [(115, 202), (1000000, 1000200)] I K → Kp [(115, 202), (1000000, 1000200)] J L → ∃ σ1 Ic Jc Rc Im Jm fc E V st ch, Core n O A vd G N (nxx σ + 2) (slx σ + 19) σ1 Ic Jc Rc Im Jm fc E V 0 st ch ∧ gX11_run σ I J R (Int32.ofInt (p : Int)) = some (σ1, enC Ic, Jc, Rc, if Ic 25 0 = 3 then -30 else if Ic 25 0 = 2 then 1 else if Ic 25 0 = 1 then -10 - Ic 25 1 else 0) ∧ gX12_run σ' K L R' (Int32.ofInt (p : Int)) = some (enM Im, Jm, if Im 114 59 = 1 then -10 - Im 114 60 else if Im 114 59 = 2 then 1 else if Im 114 59 = 3 then -30 else 0) ∧ Ag WRc I Ic ∧ Ag WRc J Jc ∧ Ag WRc R Rc ∧ Ag WRm K Im ∧ Ag WRm L Jm := fun σ' R' K L hS' kI kJ => by
    obtain ⟨K1, k1, k2⟩ := eM σ' K L R' ⟨fun q hq => by rw [kI 134 q rfl]; exact P2.1 q hq, fun k hk => by rw [kI 135 k rfl, kI 136 k rfl, kI 137 k rfl, kI 138 k rfl]; exact P2.2 k hk⟩
    have kk : Kp [(115, 142), (143, 202), (1000000, 1000200)] I K1 := fun a k ha => by
      rw [k1 a k (disW_no (C := [(115, 142), (143, 202), (1000000, 1000200)]) rfl ha)]
      exact (kI.wi (C := [(115, 142), (143, 202), (1000000, 1000200)]) (by decide)) a k ha
    rw [if_pos z1, v3 K1 (by rw [kk 114 1 rfl, f2 4 13 rfl]; exact hs.e1.symm) (by rw [kk 114 0 rfl, f2 4 12 rfl]; exact hs.e0.symm), ob_some, if_pos z2] at k2
    have hm' : TMo G C N K1 L := hm.kp (kk.wi (by decide)) (kJ.wi (by decide))
    have pK1 : PlM n O A K1 := ⟨fun q hq => by rw [kk 134 q rfl]; exact P2.1 q hq, fun k hk => by rw [kk 135 k rfl, kk 136 k rfl, kk 137 k rfl, kk 138 k rfl]; exact P2.2 k hk⟩
    obtain ⟨σ1, R1, fc, E, V, I2, I2', s1, s2, s3, s4, s5, s6, s7, s8⟩ := start (nb := nxx σ + 2) (sb := slx σ + 19) (J := J) (J' := L) hb (P1.kp (f2.kp rfl)) (P2.kp (f2.kp rfl)) pK1 p4 z1 wf bd hg (hc.ag ⟨n1, by omega⟩ f2 Ag.rf Ag.rf rfl) hm' (fun k hk => by rw [kJ 139 k rfl]; exact hSt.e0 k hk) (fun k hk => ⟨by rw [f2 19 k rfl, kk 140 k rfl]; exact hSt.e1 k hk, by rw [f2 20 k rfl, kk 141 k rfl]; exact hSt.e2 k hk⟩) ⟨by rw [f2 7 1 rfl, kk 114 24 rfl]; exact hTr.e0, by rw [kk 114 24 rfl]; exact hTr.e1, fun k hk => by rw [kk 114 24 rfl, f2 8 k rfl, kk 129 k rfl]; exact hTr.e2 k hk⟩ (by rw [kk 114 1 rfl, f2 4 13 rfl]; exact hs.e1.symm) hS hF (by omega) (by omega)
    obtain ⟨σ2, Ic, Jc, Rc, Im, Jm, fc2, E2, V2, st2, ch2, r1, r2, r3, r4, r5, r6, r7, r8⟩ := turns (σ' := σ') (R' := R') hb hvd hS' 300600 s3 s4 s5 F F 0 (by omega) (by omega) (by omega)
    refine ⟨σ2, Ic, Jc, Rc, Im, Jm, fc2, E2, V2, st2, ch2, r1, ?_, ?_, (f2.mv rfl).tr (s6.tr r4), r5, s7.tr r6, (k1.mv rfl).tr (s8.tr r7), r8⟩
    · rw [eC, s1, ob_some]
      try dsimp only
      rw [hFu, show (0 : Int32) = Int32.ofInt ((0 : Nat) : Int) from rfl, r2, b182, ob_some]
      exact b43
    · rw [k2, s2, ob_some, hFu, r3]
      exact b265 (hS'.k 114 13 (by decide) rfl)
  obtain ⟨σa, Ia, Ja, Ra, Iz, Jz, fca, Ea, Va, sta, cha, A1, A2, -, A4, A5, A6, -, -⟩ := go σ R I J hS Kp.rf Kp.rf
  have aE : Ag [(2000013, 2000015)] Ia (enC Ia) := by
    unfold enC
    split
    · exact Ag.st (Ag.st Ag.rf rfl) rfl
    · exact Ag.st Ag.rf rfl
  obtain ⟨σb, Ib, Jb, Rb, Im, Jm, fcb, Eb, Vb, stb, chb, B1, B2, B3, B4, B5, B6, B7, B8⟩ := go σa Ra (enC Ia) Ja A1.2.2.1.1 (fun a k ha => by
    rw [aE a k (disW_no (C := [(115, 202), (1000000, 1000200)]) rfl ha)]
    exact A4 a k (disW_no (C := [(115, 202), (1000000, 1000200)]) rfl ha)) (A5.kp rfl)
  have A2' := A2
  rw [B2] at A2
  have E1 := Option.some.inj A2
  obtain ⟨rfl, E2⟩ := Prod.mk.inj E1
  obtain ⟨e2, E3⟩ := Prod.mk.inj E2
  obtain ⟨rfl, E4⟩ := Prod.mk.inj E3
  obtain ⟨rfl, -⟩ := Prod.mk.inj E4
  rw [← e2] at B3 B7
  obtain ⟨⟨p1, p2, p3⟩, ⟨C1, t1, t2, t3, t4, t5, t6, -, -⟩, ⟨k1, k2, k3, k4, k5⟩, -, -, cnt, wy⟩ := B1
  obtain ⟨d1, -, d3, d4, -, d6⟩ := cnt
  have d300 := d1.2.2
  have aE' : Ag [(2000013, 2000015)] Ib (enC Ib) := by
    unfold enC
    split
    · exact Ag.st (Ag.st Ag.rf rfl) rfl
    · exact Ag.st Ag.rf rfl
  have aM : Ag [(1000002, 1000003), (1000071, 1000075)] Im (enM Im) := by
    unfold enM
    split
    · exact Ag.st (Ag.st (Ag.st (Ag.st (Ag.st Ag.rf rfl) rfl) rfl) rfl) rfl
    · exact Ag.st (Ag.st (Ag.st (Ag.st Ag.rf rfl) rfl) rfl) rfl
  -- the class's cells in the end
  have cl : Ag [(119, 120), (129, 133), (139, 156), (1000001, 1000003), (1000024, 1000025), (1000029, 1000031), (1000042, 1000043), (1000054, 1000055), (1000057, 1000075), (2000013, 2000015)] Ib (enM Im) := ((aE'.mv rfl).tr (B7.mv rfl)).tr (aM.mv rfl)
  have all : Ag WRun I (enM Im) := (B4.mv rfl).tr (cl.mv rfl)
  have jall : Ag WRun J Jm := (B5.mv rfl).tr (B8.mv rfl)
  have w59 : Im 114 59 = Ib 25 0 := wy.1
  refine tt (σb, enC Ib, Jb, Rb, _) (enM Im, Jm, _) B2 B3 ⟨?_, ⟨?_, ?_, ?_, ?_, ?_, ?_, k2, k1⟩, all, jall, B6.mv rfl, by show nxx σb ≤ nxx σ + 700; omega, by show slx σb ≤ slx σ + 6000; omega⟩
  · show (if Ib 25 0 = 3 then -30 else if Ib 25 0 = 2 then 1 else if Ib 25 0 = 1 then -10 - Ib 25 1 else (0 : Int32)) = (if Im 114 59 = 1 then -10 - Im 114 60 else if Im 114 59 = 2 then 1 else if Im 114 59 = 3 then -30 else 0)
    rw [w59]
    rcases wy.2.1 with q | q | q | q
    · rw [q, if_neg (by decide), if_neg (by decide), if_neg (by decide), if_neg (by decide), if_neg (by decide), if_neg (by decide)]
    · rw [q, if_neg (by decide), if_neg (by decide), if_pos rfl, if_pos rfl, (wy.2.2.1 q).1]
    · rw [q, if_neg (by decide), if_pos rfl, if_neg (by decide), if_pos rfl]
    · rw [q, if_pos rfl, if_neg (by decide), if_neg (by decide), if_pos rfl]
  · -- scalars
    have m13 : enM Im 4 13 = Ib 4 13 + Ib 5 13 := by
      rw [aM 4 13 rfl, B7 4 13 rfl]
      unfold enC
      split
      · simp (disch := omega) only [u2n, u2s]
      · simp (disch := omega) only [u2n, u2s]
    have m14 : enM Im 4 14 = if Ib 25 0 = 1 then Ib 25 1 else Ib 4 14 := by
      rw [aM 4 14 rfl, B7 4 14 rfl]
      unfold enC
      by_cases q : Ib 25 0 = 1
      · rw [if_pos ⟨q, wy.2.2.2.2 q⟩, if_pos q]; simp (disch := omega) only [u2n, u2s]
      · rw [if_neg (fun z => q z.1), if_neg q]; simp (disch := omega) only [u2n, u2s]
    have m2 : enM Im 114 2 = if Ib 25 0 = 1 then Ib 25 1 else Im 114 2 := by
      unfold enM
      rw [w59]
      by_cases q : Ib 25 0 = 1
      · rw [if_pos q, if_pos q, (wy.2.2.1 q).1]; simp (disch := omega) only [u2n, u2s]
      · rw [if_neg q, if_neg q]; simp (disch := omega) only [u2n, u2s]
    show GScal (enM Im)
    refine ⟨?_, ?_, ?_, ?_, ?_, ?_, ?_, ?_⟩
    · rw [all 4 12 rfl, all 114 0 rfl]; exact hs.e0
    · rw [m13, aM 114 1 rfl]; exact d3.2.2.2.2.symm
    · have x1 : Ib 4 14 = I 4 14 := B4 4 14 rfl
      have x2 : Im 114 2 = I 114 2 := by rw [B7 114 2 rfl, aE' 114 2 rfl]; exact B4 114 2 rfl
      rw [m14, m2, x1, x2, hs.e2]
    · rw [all 4 15 rfl, all 114 18 rfl]; exact hs.e3
    · rw [all 4 16 rfl, all 114 19 rfl]; exact hs.e4
    · rw [all 4 17 rfl, all 114 22 rfl]; exact hs.e5
    · rw [all 4 18 rfl, all 114 25 rfl]; exact hs.e6
    · rw [all 4 19 rfl, all 114 32 rfl]; exact hs.e7
  · exact ⟨G, C1, N, t1, t2.ag ⟨k1.1, by omega⟩ cl (B8.mv (M := [(119, 120), (129, 133), (139, 156), (1000001, 1000003), (1000024, 1000025), (1000029, 1000031), (1000042, 1000043), (1000054, 1000055), (1000057, 1000075), (2000013, 2000015)]) rfl) Ag.rf rfl, t3.kp (aM.kp rfl) Kp.rf⟩
  · exact hP.kp (all.kp rfl)
  · show GStore (enM Im) Jm
    refine ⟨fun k hk => ?_, fun k hk => ?_, fun k hk => ?_⟩
    · rw [B8 18 k rfl]; exact t4 k hk
    · rw [cl 19 k rfl, aM 140 k rfl]; exact (d4 k hk).1
    · rw [cl 20 k rfl, aM 141 k rfl]; exact (d4 k hk).2
  · show GTrace (enM Im)
    refine ⟨?_, ?_, fun k hk => ?_⟩
    · rw [cl 7 1 rfl, aM 114 24 rfl]; exact d6.1
    · rw [aM 114 24 rfl]; exact d6.2.1
    · rw [aM 114 24 rfl, cl 8 k rfl, aM 129 k rfl]; exact d6.2.2 k hk
  · -- what ran
    have c25 : ∀ k, enM Im 25 k = Ib 25 k := fun k => cl 25 k rfl
    have n74 : enM Im 114 74 = if Ib 25 0 = 2 then Ib 25 5 else 0 := by
      unfold enM
      rw [w59]
      by_cases q : Ib 25 0 = 1
      · rw [if_pos q, if_neg (by rw [q]; decide)]; simp (disch := omega) only [u2n, u2s]
      · rw [if_neg q]; simp (disch := omega) only [u2n, u2s]
        by_cases q2 : Ib 25 0 = 2
        · rw [if_pos q2, if_pos q2]; exact (wy.2.2.2.1 q2).symm
        · rw [if_neg q2, if_neg q2]
    have n71 : enM Im 114 71 = if Ib 25 0 = 1 then Ib 25 3 else -1 := by
      unfold enM
      rw [w59]
      by_cases q : Ib 25 0 = 1
      · rw [if_pos q, if_pos q]; simp (disch := omega) only [u2n, u2s]; exact (wy.2.2.1 q).2.2.1.symm
      · rw [if_neg q, if_neg q]; simp (disch := omega) only [u2n, u2s]
    have n72 : enM Im 114 72 = if Ib 25 0 = 1 then Ib 25 4 else 0 := by
      unfold enM
      rw [w59]
      by_cases q : Ib 25 0 = 1
      · rw [if_pos q, if_pos q]; simp (disch := omega) only [u2n, u2s]; exact (wy.2.2.1 q).2.2.2.symm
      · rw [if_neg q, if_neg q]; simp (disch := omega) only [u2n, u2s]
    have n73 : enM Im 114 73 = if Ib 25 0 = 1 then Ib 25 2 else 0 := by
      unfold enM
      rw [w59]
      by_cases q : Ib 25 0 = 1
      · rw [if_pos q, if_pos q]; simp (disch := omega) only [u2n, u2s]; exact (wy.2.2.1 q).2.1.symm
      · rw [if_neg q, if_neg q]; simp (disch := omega) only [u2n, u2s]
    show GRan (enM Im)
    unfold GRan
    rw [c25 0, c25 5, c25 3, c25 4, c25 2, n74, n71, n72, n73, cl 5 9 rfl, cl 5 10 rfl, cl 5 11 rfl, cl 5 12 rfl, cl 5 13 rfl, aM 114 65 rfl, aM 114 67 rfl, aM 114 68 rfl, aM 114 69 rfl, aM 114 70 rfl]
    exact ⟨fun q => if_pos q, fun q => if_neg q, fun q => if_pos q, fun q => if_neg q, fun q => if_pos q, fun q => if_neg q, fun q => if_pos q, fun q => if_neg q, by rw [d1.1, d1.2.1], d3.1, d3.2.1, d3.2.2.1, d3.2.2.2.1⟩
