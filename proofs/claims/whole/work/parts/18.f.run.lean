/-! ===== a run, the call itself ===== -/
theorem c_run {σ : Shp} {I : Nat → Nat → Int32} {J : Nat → Nat → Int64} {R : Nat → Nat → Option Nat} {x1 : Int32} (hn : nxx σ ≤ 700000) (hs : GScal I) (hT : GThing σ I J R) (hP : GPlan I) (hSt : GStore I J) (hTr : GTrace I) (hRn : GRan I) (hF : GFrm σ R) (hS : Skel σ R) : Tot (gX11_run σ I J R x1) (fun t => Tot (gX12_run t.1 t.2.1 t.2.2.1 t.2.2.2.1 x1) (fun t2 => t.2.2.2.2 = t2.2.2 ∧ GRunF t.1 t2.1 t2.2.1 t.2.2.2.1 ∧ Ag WRun I t2.1 ∧ Ag WRun J t2.2.1 ∧ Ag WRun R t.2.2.2.1 ∧ nxx t.1 ≤ nxx σ + 700 ∧ slx t.1 ≤ slx σ + 6000)) := by
  obtain ⟨i, hi1, hi2, rfl⟩ := rep x1
  have n1 := hS.1
  by_cases c1 : 0 ≤ i ∧ i ≤ 3
  case neg =>
    exact tt (σ, I, J, R, -2) (I, J, -2) (by unfold gX11_run; rw [tX11_isPlanF (by omega), if_pos rfl]) (by show gX12_run σ I J R _ = _; unfold gX12_run; rw [tX12_inF (by omega), if_pos rfl]) ⟨rfl, ⟨hs, hT, hP, hSt, hTr, hRn, hF, hS⟩, Ag.rf, Ag.rf, Ag.rf, by show nxx σ ≤ nxx σ + 700; omega, by show slx σ ≤ slx σ + 6000; omega⟩
  obtain ⟨p, rfl⟩ : ∃ k : Nat, i = (k : Int) := ⟨i.toNat, by omega⟩
  have p4 : p < 4 := by omega
  obtain ⟨n, O, A, hb, P1, P2⟩ := hP.pl
  obtain ⟨vd, hvd⟩ : ∃ vd : Nat → Int32, ∀ q, q < 4 → Vd n O A q (vd q) := by
    have : ∀ q, ∃ v, q < 4 → Vd n O A q v := fun q => by
      by_cases hq : q < 4
      · obtain ⟨v, hv⟩ := Vd.ex P1 P2 hb hq
        exact ⟨v, fun _ => hv⟩
      · exact ⟨0, fun z => absurd z hq⟩
    exact ⟨fun q => Classical.choose (this q), fun q hq => Classical.choose_spec (this q) hq⟩
  obtain ⟨I1, f1, f2, f3, f4⟩ := (hvd p p4).1 σ R I P1 P2
  have eC : gX11_run σ I J R (Int32.ofInt (p : Int)) = if vd p = -1 then (gX11_isFull I1).bind fun r4 => if r4 = 0 then (gX7_wholeRun σ I1 J R (Int32.ofInt (p : Int))).bind fun (σ6, I7, J8, R9, r10) => gX11_run_b43 σ6 I7 J8 R9 r10 else some (σ, I1, J, R, -4) else some (σ, I1, J, R, -3) := by
    unfold gX11_run
    rw [tX11_isPlanT (by omega), if_neg n10, f1, ob_some]
  have eM : ∀ (s : Shp) (K : Nat → Nat → Int32) (L : Nat → Nat → Int64) (Q : Nat → Nat → Option Nat), PlM n O A K → ∃ K1, Ag [(142, 143)] K K1 ∧ gX12_run s K L Q (Int32.ofInt (p : Int)) = if vd p = -1 then (gX12_isFull K1).bind fun r4 => if r4 = 0 then (gX12_push (rsM K1 p) 21).bind fun I17 => gX12_run_l95 s Q FUx I17 L else some (K1, L, -4) else some (K1, L, -3) := fun s K L Q hK => by
    obtain ⟨K1, k1, k2⟩ := (hvd p p4).2 s Q K hK
    refine ⟨K1, k2, ?_⟩
    unfold gX12_run
    rw [tX12_inT (by omega), if_neg n10, k1, ob_some]
    rfl
  have keep : ∀ K1, Ag [(15, 17), (142, 143)] I K1 → GRunF σ K1 J R := fun K1 a => by
    obtain ⟨G, C, N, hg, hc, hm⟩ := id hT
    exact ⟨hs.kp (a.kp rfl), ⟨G, C, N, hg, hc.ag ⟨n1, by omega⟩ a Ag.rf Ag.rf rfl, hm.kp (a.kp rfl) Kp.rf⟩, hP.kp (a.kp rfl), hSt.kp (a.kp rfl) Kp.rf, hTr.kp (a.kp rfl), hRn.kp (a.kp rfl), hF, hS⟩
  by_cases z1 : vd p = -1
  case neg =>
    rw [if_neg z1] at eC
    obtain ⟨K1, k1, k2⟩ := eM σ I1 J R (P2.kp (f2.kp rfl))
    rw [if_neg z1] at k2
    have a : Ag [(15, 17), (142, 143)] I K1 := (f2.mv rfl).tr (k1.mv rfl)
    exact tt (σ, I1, J, R, -3) (K1, J, -3) eC k2 ⟨rfl, keep K1 a, a.mv rfl, Ag.rf, Ag.rf, by show nxx σ ≤ nxx σ + 700; omega, by show slx σ ≤ slx σ + 6000; omega⟩
  rw [if_pos z1] at eC
  obtain ⟨wf, bd⟩ := f3 z1
  -- both are full alike
  have fl : ∀ K : Nat → Nat → Int32, ∃ v, gX11_isFull K = some v ∧ (v = 0 ∨ v = 1) ∧ ∀ K' : Nat → Nat → Int32, K' 114 1 = K 4 13 → K' 114 0 = K 4 12 → gX12_isFull K' = some v := fun K => by
    unfold gX11_isFull gX12_isFull
    by_cases q1 : 3000 ≤ K 4 13
    · exact ⟨1, by rw [if_pos q1], Or.inr rfl, fun K' e1 e2 => by rw [e1, if_pos q1]⟩
    · by_cases q2 : K 4 12 < 4000
      · exact ⟨0, by rw [if_neg q1, if_pos q2], Or.inl rfl, fun K' e1 e2 => by rw [e1, e2, if_neg q1, if_pos q2]⟩
      · exact ⟨1, by rw [if_neg q1, if_neg q2], Or.inr rfl, fun K' e1 e2 => by rw [e1, e2, if_neg q1, if_neg q2]⟩
  obtain ⟨v, v1, v2, v3⟩ := fl I1
  rw [v1, ob_some] at eC
  by_cases z2 : v = 0
  case neg =>
    rw [if_neg z2] at eC
    obtain ⟨K1, k1, k2⟩ := eM σ I1 J R (P2.kp (f2.kp rfl))
    rw [if_pos z1, v3 K1 (by rw [k1 114 1 rfl, f2 114 1 rfl, f2 4 13 rfl]; exact hs.e1.symm) (by rw [k1 114 0 rfl, f2 114 0 rfl, f2 4 12 rfl]; exact hs.e0.symm), ob_some, if_neg z2] at k2
    have a : Ag [(15, 17), (142, 143)] I K1 := (f2.mv rfl).tr (k1.mv rfl)
    exact tt (σ, I1, J, R, -4) (K1, J, -4) eC k2 ⟨rfl, keep K1 a, a.mv rfl, Ag.rf, Ag.rf, by show nxx σ ≤ nxx σ + 700; omega, by show slx σ ≤ slx σ + 6000; omega⟩
  rw [if_pos z2, wrC] at eC
  obtain ⟨G, C, N, hg, hc, hm⟩ := id hT
  obtain ⟨F, hFu⟩ : ∃ F, FUx = F := ⟨_, rfl⟩
  have hF' : F = 2000000 := by rw [← hFu, FUx_eq]
  -- both runs, for any memory of the model
  have go : ∀ (σ' : Shp) (R' : Nat → Nat → Option Nat) (K : Nat → Nat → Int32) (L : Nat → Nat → Int64), Skel σ' R' → Kp [(115, 202), (1000000, 1000200)] I K → Kp [(115, 202)] J L → ∃ σ1 Ic Jc Rc Im Jm fc E V st ch, Core n O A vd G N (nxx σ + 2) (slx σ + 19) σ1 Ic Jc Rc Im Jm fc E V 0 st ch ∧ gX11_run σ I J R (Int32.ofInt (p : Int)) = some (σ1, enC Ic, Jc, Rc, if Ic 25 0 = 3 then -30 else if Ic 25 0 = 2 then 1 else if Ic 25 0 = 1 then -10 - Ic 25 1 else 0) ∧ gX12_run σ' K L R' (Int32.ofInt (p : Int)) = some (enM Im, Jm, if Im 114 59 = 1 then -10 - Im 114 60 else if Im 114 59 = 2 then 1 else if Im 114 59 = 3 then -30 else 0) ∧ Ag WRc I Ic ∧ Ag WRc J Jc ∧ Ag WRc R Rc ∧ Ag WRm K Im ∧ Ag WRm L Jm := fun σ' R' K L hS' kI kJ => by
    obtain ⟨K1, k1, k2⟩ := eM σ' K L R' ⟨fun q hq => by rw [kI 134 q rfl]; exact P2.1 q hq, fun k hk => by rw [kI 135 k rfl, kI 136 k rfl, kI 137 k rfl, kI 138 k rfl]; exact P2.2 k hk⟩
    have kk : ∀ a k, inW [(115, 142), (143, 202), (1000000, 1000200)] (key a k) = true → K1 a k = I a k := fun a k ha => by
      have h1 : inW [(115, 202), (1000000, 1000200)] (key a k) = true := by
        obtain ⟨t, ht, q1, q2⟩ := inW_iff.mp ha
        simp only [List.mem_cons, List.not_mem_nil, or_false] at ht
        rcases ht with rfl | rfl | rfl
        · exact inW_iff.mpr ⟨(115, 202), by decide, q1, by dsimp only at q2 ⊢; omega⟩
        · exact inW_iff.mpr ⟨(115, 202), by decide, by dsimp only at q1 ⊢; omega, q2⟩
        · exact inW_iff.mpr ⟨(1000000, 1000200), by decide, q1, q2⟩
      rw [k1 a k (disW_no (C := [(115, 142), (143, 202), (1000000, 1000200)]) rfl ha)]
      exact kI a k h1
    rw [if_pos z1, v3 K1 (by rw [kk 114 1 rfl, f2 4 13 rfl]; exact hs.e1.symm) (by rw [kk 114 0 rfl, f2 4 12 rfl]; exact hs.e0.symm), ob_some, if_pos z2] at k2
    have hm' : TMo G C N K1 L := hm.kp (fun a k ha => kk a k (by
      obtain ⟨t, ht, q1, q2⟩ := inW_iff.mp ha
      unfold KThM at ht
      simp only [List.mem_cons, List.not_mem_nil, or_false] at ht
      rcases ht with rfl | rfl | rfl | rfl | rfl | rfl | rfl
      · exact inW_iff.mpr ⟨(115, 142), by decide, q1, by dsimp only at q2 ⊢; omega⟩
      · exact inW_iff.mpr ⟨(115, 142), by decide, by dsimp only at q1 ⊢; omega, by dsimp only at q2 ⊢; omega⟩
      · exact inW_iff.mpr ⟨(115, 142), by decide, by dsimp only at q1 ⊢; omega, by dsimp only at q2 ⊢; omega⟩
      · exact inW_iff.mpr ⟨(115, 142), by decide, by dsimp only at q1 ⊢; omega, by dsimp only at q2 ⊢; omega⟩
      · exact inW_iff.mpr ⟨(1000000, 1000200), by decide, q1, by dsimp only at q2 ⊢; omega⟩
      · exact inW_iff.mpr ⟨(1000000, 1000200), by decide, by dsimp only at q1 ⊢; omega, by dsimp only at q2 ⊢; omega⟩
      · exact inW_iff.mpr ⟨(1000000, 1000200), by decide, by dsimp only at q1 ⊢; omega, by dsimp only at q2 ⊢; omega⟩)) (fun a k ha => by
      by_cases e : a = 119
      · subst e; exact kJ 119 k rfl
      · exact kJ a k (by
          obtain ⟨t, ht, q1, q2⟩ := inW_iff.mp ha
          unfold KThM at ht
          simp only [List.mem_cons, List.not_mem_nil, or_false] at ht
          rcases ht with rfl | rfl | rfl | rfl | rfl | rfl | rfl
          · exact inW_iff.mpr ⟨(115, 202), by decide, q1, by dsimp only at q2 ⊢; omega⟩
          · exact inW_iff.mpr ⟨(115, 202), by decide, by dsimp only at q1 ⊢; omega, by dsimp only at q2 ⊢; omega⟩
          · exact inW_iff.mpr ⟨(115, 202), by decide, by dsimp only at q1 ⊢; omega, by dsimp only at q2 ⊢; omega⟩
          · exact inW_iff.mpr ⟨(115, 202), by decide, by dsimp only at q1 ⊢; omega, by dsimp only at q2 ⊢; omega⟩
          · sorry
          · sorry
          · sorry))
    sorry
  sorry
