/-! ===== plant: the call ===== -/
theorem TOut.tr {σ : Shp} {I I1 I' : Nat → Nat → Int32} {J J1 J' : Nat → Nat → Int64} {R R1 R' : Nat → Nat → Option Nat} (a : Ag WT I I1) (b : Ag WT J J1) (c : Ag WT R R1) (h : TOut σ I1 I' J1 J' R1 R') : TOut σ I I' J J' R R' := ⟨h.1, h.2.1, a.tr h.2.2.1, b.tr h.2.2.2.1, c.tr h.2.2.2.2⟩
theorem tout_no3 {σ : Shp} {I : Nat → Nat → Int32} {J : Nat → Nat → Int64} {R : Nat → Nat → Option Nat} {x : Int32} (hn : 198 ≤ nxx σ ∧ nxx σ ≤ 900000) (hs : GScal I) (h : GThing σ I J R) : TOut σ I (noI (fI I x) x) J J R R := by
  obtain ⟨G, C, N, hg, hc, hm⟩ := h
  have a : Ag [(1000001, 1000002), (1000002, 1000003), (2000013, 2000014), (2000014, 2000015)] I (noI (fI I x) x) := Ag.st (Ag.st (Ag.st (Ag.st Ag.rf rfl) rfl) rfl) rfl
  exact ⟨no_scal hs, ⟨G, C, N, hg, hc.ag hn a Ag.rf Ag.rf rfl, hm.kp (a.kp rfl) Kp.rf⟩, Ag.st (Ag.st (Ag.st (Ag.st Ag.rf rfl) rfl) rfl) rfl, Ag.rf, Ag.rf⟩
theorem garbP {G : Nat → Nat → Nat} {C : Nat → Int64} {N : Nat → Nat → Int32} {σ : Shp} {I I1 : Nat → Nat → Int32} {J : Nat → Nat → Int64} {R : Nat → Nat → Option Nat} {u v : Option Nat} (hS : Skel σ R) (hn : nxx σ + 3 ≤ 900000) (hc : TCl G C N σ I J R) (hI : ∀ b k, b ≠ nxx σ + 4 → I1 b k = I b k) : TCl G C N (shP σ 2) I1 J (u2 (u2 R (nxx σ + 4) 1 u) (nxx σ + 4) 2 v) := by
  have h198 := hS.1
  refine hc.garb ⟨h198, by rw [shP_n]; omega⟩ (by rw [shP_n]; omega) (fun b hb => ?_) (fun b h1 h2 => ?_) (hI 4 12 (by omega)) (fun b h1 h2 h3 => ?_) ?_ (fun b h1 h2 h3 => ?_)
  · rw [shP_k, shP_l, if_neg (by omega), if_neg (by omega), if_neg (by omega)]
    exact ⟨rfl, rfl⟩
  · rw [shP_n] at h1
    rw [shP_k, if_neg (by omega), if_neg (by omega)]
    exact (hc.2.2.2.2 b (by omega) h2).1
  · rw [shP_n] at h3
    funext j
    exact hI b j (by omega)
  · funext j
    rw [u2n (by omega), u2n (by omega)]
  · rw [shP_n] at h3
    funext j
    rw [u2n (by omega), u2n (by omega)]
theorem out_plant {G : Nat → Nat → Nat} {C : Nat → Int64} {N : Nat → Nat → Int32} {σ' : Shp} {I I1 : Nat → Nat → Int32} {J : Nat → Nat → Int64} {R R1 : Nat → Nat → Option Nat} {a b k d l q : Nat} {x3 x4 : Int32} (hs : GScal I) (hg : TSg G C N) (hm : TMo G C N I J) (hn : 198 ≤ nxx σ' ∧ nxx σ' ≤ 900000) (kc : TCl (gNew G a 16 0 k d l q) C (u2 (u2 (u2 N 4 (G 10 0 + 1) (I 4 15)) 5 (G 10 0 + 1) x3) 6 (G 10 0 + 1) x4) σ' I1 J R1) (a1 : Ag [(202, 1000000), (2000012, 2000013), (2000015, 2000016)] I I1) (e15 : I1 4 15 = I 4 15 + 1) (aR : Ag [(202, 1000000)] R R1) (h4 : G 10 0 < 4000) (hk : k ≤ 5) (hd : d ≤ 4) (hl : l ≤ G 10 0) (hq : q ≤ G 10 0) (hp : k = 2 → 1 ≤ d ∧ (l ≠ 0 → G 1 l = 16 ∧ G 8 l < d) ∧ (q ≠ 0 → G 1 q = 16 ∧ G 8 q < d)) : TOut σ' I (moPl I1 (G 10 0) k d l q b x3 x4) J J R (u2 R1 6 b (some a)) := by
  have e18 : I1 114 18 = I 4 15 := by rw [a1 114 18 rfl]; exact hs.e3.symm
  have m := mo_plant (a := a) (k := k) (d := d) (l := l) (q := q) (b := b) (x3 := x3) (x4 := x4) hg (hm.kp (a1.kp rfl) Kp.rf) (by omega)
  rw [e18] at m
  have g := hg.new (N' := u2 (u2 (u2 N 4 (G 10 0 + 1) (I 4 15)) 5 (G 10 0 + 1) x3) 6 (G 10 0 + 1) x4) (a := a) (f := 16) (z := 0) (k := k) (d := d) (l := l) (q := q) (fun x t ht => by rw [u2n (by omega), u2n (by omega), u2n (by omega)]) (by omega) (by omega) hk hd (by omega) (by omega) (by omega) (by omega) hl hq (fun r => by omega) (fun _ r => hp r)
  have pe : pn (gNew G a 16 0 k d l q) (G 10 0 + 1) = some a := by rw [pn_1 (by omega), gNa]
  have k2 := kc.setB (b := b) (t := G 10 0 + 1) hn.1
  rw [pe] at k2
  have a2 : Ag [(115, 118), (121, 128), (1000000, 1000001), (1000018, 1000019)] I1 (moPl I1 (G 10 0) k d l q b x3 x4) := Ag.st (Ag.st (Ag.st (Ag.st (Ag.st (Ag.st (Ag.st (Ag.st (Ag.st (Ag.st (Ag.st (Ag.st Ag.rf rfl) rfl) rfl) rfl) rfl) rfl) rfl) rfl) rfl) rfl) rfl) rfl
  refine ⟨?_, ⟨_, C, _, g.setB (by rw [gN0]; omega), k2.ag hn a2 Ag.rf Ag.rf rfl, m⟩, ?_, Ag.rf, ?_⟩
  · have h12 := kc.1
    rw [gN0] at h12
    unfold moPl
    refine ⟨?_, ?_, ?_, ?_, ?_, ?_, ?_, ?_⟩
    · simp (disch := omega) only [u2n, u2s]; rw [h12]; rfl
    · simp (disch := omega) only [u2n, u2s]; rw [a1 4 13 rfl, a1 114 1 rfl]; exact hs.e1
    · simp (disch := omega) only [u2n, u2s]; rw [a1 4 14 rfl, a1 114 2 rfl]; exact hs.e2
    · simp (disch := omega) only [u2n, u2s]; rw [e15, e18]
    · simp (disch := omega) only [u2n, u2s]; rw [a1 4 16 rfl, a1 114 19 rfl]; exact hs.e4
    · simp (disch := omega) only [u2n, u2s]; rw [a1 4 17 rfl, a1 114 22 rfl]; exact hs.e5
    · simp (disch := omega) only [u2n, u2s]; rw [a1 4 18 rfl, a1 114 25 rfl]; exact hs.e6
    · simp (disch := omega) only [u2n, u2s]; rw [a1 4 19 rfl, a1 114 32 rfl]; exact hs.e7
  · exact (a1.mv rfl).tr (a2.mv rfl)
  · exact Ag.st (aR.mv rfl) rfl
theorem shP_125 {σ : Shp} {R : Nat → Nat → Option Nat} {z : Nat} (hS : Skel σ R) : (kdx (shP σ z) 125 = 23 ∧ lnx (shP σ z) 125 = 4100) ∧ (kdx (shP σ z) 126 = 23 ∧ lnx (shP σ z) 126 = 4100) := by
  have h := hS.1
  refine ⟨⟨?_, ?_⟩, ⟨?_, ?_⟩⟩
  · rw [shP_k, if_neg (by omega), if_neg (by omega)]; exact hS.k 125 23 (by decide) rfl
  · rw [shP_l, if_neg (by omega)]; exact hS.l 125 4100 (by decide) rfl
  · rw [shP_k, if_neg (by omega), if_neg (by omega)]; exact hS.k 126 23 (by decide) rfl
  · rw [shP_l, if_neg (by omega)]; exact hS.l 126 4100 (by decide) rfl
def cpPost (σ : Shp) (I : Nat → Nat → Int32) (J : Nat → Nat → Int64) (R : Nat → Nat → Option Nat) (t : Shp × (Nat → Nat → Int32) × (Nat → Nat → Option Nat) × Int32) (t2 : (Nat → Nat → Int32) × Int32) : Prop := t.2.2.2 = t2.2 ∧ TOut t.1 I t2.1 J J R t.2.2.1 ∧ Grow σ t.1
theorem c_plant2 {σ : Shp} {I : Nat → Nat → Int32} {J : Nat → Nat → Int64} {R : Nat → Nat → Option Nat} {i p r : Int} {x3 x4 : Int32} (hS : Skel σ R) (hn : nxx σ + 3 ≤ 900000) (hs : GScal I) (hT : GThing σ I J R) (c1 : 0 ≤ i ∧ i ≤ 15) (c4 : 0 ≤ p ∧ p ≤ 15) (c5 : 0 ≤ r ∧ r ≤ 15) : Tot (gX11_plant σ I R (Int32.ofInt i) 2 x3 x4 (Int32.ofInt p) (Int32.ofInt r)) (fun t => Tot (gX12_plant t.1 t.2.1 t.2.2.1 (Int32.ofInt i) 2 x3 x4 (Int32.ofInt p) (Int32.ofInt r)) (fun t2 => cpPost σ I J R t t2)) := by
  obtain ⟨G, C, N, hg, hc, hm⟩ := id hT
  have hn' : nxx σ ≤ 900000 := by omega
  have h198 := hS.1
  have h40 := hg.1.1
  have gr : Grow σ (shP σ 2) := ⟨by rw [shP_n]; omega, by rw [shP_n]; omega, by rw [shP_s]; omega⟩
  rcases full_eq hs hm.1.1 h40 with ⟨f1, f2⟩ | ⟨f1, f2, f3⟩
  · refine tt (σ, I, R, -4) (I, -4) (cp_ful2 c1 c4 c5 f1) ?_ ⟨rfl, tout_rf hs hT, Grow.rf⟩
    rw [mp_hd2 c1 c4 c5]
    unfold gX12_plant_b40
    rw [f2, ob_some, if_neg n10]
  have ep := hc.2.1 p.toNat (by omega)
  have er := hc.2.1 r.toNat (by omega)
  have mp := hm.2.1 p.toNat (by omega)
  have mr := hm.2.1 r.toNat (by omega)
  have lp := hg.2.1 p.toNat (by omega)
  have lr := hg.2.1 r.toNat (by omega)
  generalize G 9 p.toNat = l at *
  generalize G 9 r.toNat = q at *
  have kg : TCl G C N (shP σ 2) (u2 I (nxx σ + 4) 0 16) J (u2 (u2 R (nxx σ + 4) 1 (some 0)) (nxx σ + 4) 2 (some (nxx σ + 4 + 1))) := garbP hS hn hc (fun b k h => u2n (by omega))
  have a1 : Ag [(202, 1000000)] I (u2 I (nxx σ + 4) 0 16) := Ag.st Ag.rf (far_in (by omega) (by omega) rfl)
  have aR : Ag [(202, 1000000)] R (u2 (u2 R (nxx σ + 4) 1 (some 0)) (nxx σ + 4) 2 (some (nxx σ + 4 + 1))) := Ag.st (Ag.st Ag.rf (far_in (by omega) (by omega) rfl)) (far_in (by omega) (by omega) rfl)
  have mg : TMo G C N (u2 I (nxx σ + 4) 0 16) J := hm.kp (a1.kp rfl) Kp.rf
  have hsg : GScal (u2 I (nxx σ + 4) 0 16) := hs.kp (a1.kp rfl)
  have hTg : GThing (shP σ 2) (u2 I (nxx σ + 4) 0 16) J (u2 (u2 R (nxx σ + 4) 1 (some 0)) (nxx σ + 4) 2 (some (nxx σ + 4 + 1))) := ⟨G, C, N, hg, kg, mg⟩
  have hng : 198 ≤ nxx (shP σ 2) ∧ nxx (shP σ 2) ≤ 900000 := by rw [shP_n]; omega
  have oc : TOut (shP σ 2) I (noI (fI (u2 I (nxx σ + 4) 0 16) 4) 4) J J R (u2 (u2 R (nxx σ + 4) 1 (some 0)) (nxx σ + 4) 2 (some (nxx σ + 4 + 1))) := TOut.tr (a1.mv rfl) Ag.rf (aR.mv rfl) (tout_no3 hng hsg hTg)
  have ff : gX12_isFull (fI (u2 I (nxx σ + 4) 0 16) 4) = some 0 := by
    rw [← f2]
    unfold fI
    exact full_o (by simp (disch := omega) only [u2n, u2s]) (by simp (disch := omega) only [u2n, u2s])
  have mpf : fI (u2 I (nxx σ + 4) 0 16) 4 115 p.toNat = Int32.ofInt l := by
    unfold fI
    simp (disch := omega) only [u2n, u2s]; exact mp
  have mrf : fI (u2 I (nxx σ + 4) 0 16) 4 115 r.toNat = Int32.ofInt q := by
    unfold fI
    simp (disch := omega) only [u2n, u2s]; exact mr
  rcases goes_eq hg kg mg (f := 16) lp (by omega) with ⟨g1, g1f, g1m, g1g⟩ | ⟨g1, g1f, -⟩
  case inr =>
    refine tt (shP σ 2, fI (u2 I (nxx σ + 4) 0 16) 4, u2 (u2 R (nxx σ + 4) 1 (some 0)) (nxx σ + 4) 2 (some (nxx σ + 4 + 1)), mfail 4) (noI (fI (u2 I (nxx σ + 4) 0 16) 4) 4, mfail 4) ?_ ?_ ⟨rfl, oc, gr⟩
    · rw [cp_hd2 c1 c4 c5 f1]
      exact cplant_2f h198 c4 c5 (by rw [ep]; exact g1)
    · rw [mp_hd2 c1 c4 c5]
      exact mplant_f c4 ff mpf (g1f 4)
  rcases goes_eq hg kg mg (f := 16) lr (by omega) with ⟨g2, g2f, g2m, g2g⟩ | ⟨g2, g2f, -⟩
  case inr =>
    refine tt (shP σ 2, fI (u2 I (nxx σ + 4) 0 16) 4, u2 (u2 R (nxx σ + 4) 1 (some 0)) (nxx σ + 4) 2 (some (nxx σ + 4 + 1)), mfail 4) (noI (fI (u2 I (nxx σ + 4) 0 16) 4) 4, mfail 4) ?_ ?_ ⟨rfl, oc, gr⟩
    · rw [cp_hd2 c1 c4 c5 f1]
      exact cplant_2g h198 c4 c5 (by rw [ep]; exact g1) (by rw [er]; exact g2)
    · rw [mp_hd2 c1 c4 c5]
      exact mplant_g c4 c5 ff mpf mrf (g1f 4) (g2f 4)
  obtain ⟨d1, h1⟩ := depth_eq hg kg lp
  obtain ⟨d2, h2⟩ := depth_eq hg kg lr
  have n1 := (hm.2.2.1 l (by omega)).2.2.2.2.2.2.2.2.2.1
  have n2 := (hm.2.2.1 q (by omega)).2.2.2.2.2.2.2.2.2.1
  by_cases cd : 1 + (if G 8 l < G 8 q then G 8 q else G 8 l) ≤ 4
  case neg =>
    have a7 : Ag [(202, 1000000)] I (u2 (u2 I (nxx σ + 4) 0 16) (nxx σ + 4) 7 (Int32.ofInt ((1 + (if G 8 l < G 8 q then G 8 q else G 8 l) : Nat) : Int))) := Ag.st a1 (far_in (by omega) (by omega) rfl)
    have k7 : TCl G C N (shP σ 2) (u2 (u2 I (nxx σ + 4) 0 16) (nxx σ + 4) 7 (Int32.ofInt ((1 + (if G 8 l < G 8 q then G 8 q else G 8 l) : Nat) : Int))) J (u2 (u2 R (nxx σ + 4) 1 (some 0)) (nxx σ + 4) 2 (some (nxx σ + 4 + 1))) := garbP hS hn hc (fun b k h => by rw [u2n (by omega), u2n (by omega)])
    have m7 : TMo G C N (u2 (u2 I (nxx σ + 4) 0 16) (nxx σ + 4) 7 (Int32.ofInt ((1 + (if G 8 l < G 8 q then G 8 q else G 8 l) : Nat) : Int))) J := hm.kp (a7.kp rfl) Kp.rf
    have i0 : ∀ f x, gX12_isOf (u2 (u2 I (nxx σ + 4) 0 16) (nxx σ + 4) 7 (Int32.ofInt ((1 + (if G 8 l < G 8 q then G 8 q else G 8 l) : Nat) : Int))) x f = gX12_isOf (u2 I (nxx σ + 4) 0 16) x f := fun f x => by
      unfold gX12_isOf
      simp (disch := omega) only [u2n, u2s]
    refine tt (shP σ 2, u2 (u2 I (nxx σ + 4) 0 16) (nxx σ + 4) 7 (Int32.ofInt ((1 + (if G 8 l < G 8 q then G 8 q else G 8 l) : Nat) : Int)), u2 (u2 R (nxx σ + 4) 1 (some 0)) (nxx σ + 4) 2 (some (nxx σ + 4 + 1)), -4) (u2 (u2 I (nxx σ + 4) 0 16) (nxx σ + 4) 7 (Int32.ofInt ((1 + (if G 8 l < G 8 q then G 8 q else G 8 l) : Nat) : Int)), -4) ?_ ?_ ⟨rfl, TOut.tr (a7.mv rfl) Ag.rf (aR.mv rfl) (tout_rf (hs.kp (a7.kp rfl)) ⟨G, C, N, hg, k7, m7⟩), gr⟩
    · rw [cp_hd2 c1 c4 c5 f1]
      exact cplant_2d h198 c4 c5 (by rw [ep]; exact g1) (by rw [er]; exact g2) (by rw [ep]; exact d1) (by rw [er]; exact d2) h1 h2 cd
    · rw [mp_hd2 c1 c4 c5]
      show gX12_plant_b40 _ _ (u2 (u2 I (nxx σ + 4) 0 16) (nxx σ + 4) 7 (Int32.ofInt ((1 + (if G 8 l < G 8 q then G 8 q else G 8 l) : Nat) : Int))) _ _ _ _ _ _ = _
      rw [mplant_k (l := l) (q := q) (dl := G 8 l) (dq := G 8 q) c4 c5 (by rw [← f2]; exact full_o (by simp (disch := omega) only [u2n, u2s]) (by simp (disch := omega) only [u2n, u2s])) (by simp (disch := omega) only [u2n, u2s]; exact mp) (by simp (disch := omega) only [u2n, u2s]; exact mr) (by omega) (by omega) (by rw [i0]; exact g1m) (by rw [i0]; exact g2m) (by simp (disch := omega) only [u2n, u2s]; exact n1) (by simp (disch := omega) only [u2n, u2s]; exact n2) h1 h2, if_neg cd]
  have hP := cplant_2 (σ := σ) (R := R) (I := I) (x3 := x3) (x4 := x4) h198 c1 c4 c5 (by rw [ep]; exact g1) (by rw [er]; exact g2) (by rw [ep]; exact d1) (by rw [er]; exact d2) h1 h2 cd (by rw [ep]; exact ok_pn kg lp) (by rw [er]; exact ok_pn kg lr)
  have hd1 : G 8 l < 1 + (if G 8 l < G 8 q then G 8 q else G 8 l) := by split <;> omega
  have hd2 : G 8 q < 1 + (if G 8 l < G 8 q then G 8 q else G 8 l) := by split <;> omega
  have hd0 : 1 ≤ 1 + (if G 8 l < G 8 q then G 8 q else G 8 l) := by omega
  have mk := fun (I' : Nat → Nat → Int32) (R' : Nat → Nat → Option Nat) h1' h2' h3' h4' h5' h6' h7' => mplant_k (σ := shP σ 2) (R := R') (I := I') (l := l) (q := q) (dl := G 8 l) (dq := G 8 q) (p := p) (r := r) (x1 := Int32.ofInt i) (x3 := x3) (x4 := x4) c4 c5 h1' h2' h3' (by omega) (by omega) h4' h5' h6' h7' h1 h2
  generalize hD : 1 + (if G 8 l < G 8 q then G 8 q else G 8 l) = d at *
  have kc := cl_plant2 (d := d) (x3 := x3) (x4 := x4) hS hn hg hc lp lr
  have a2 : Ag [(202, 1000000), (2000012, 2000013), (2000015, 2000016)] I (clP2 I (nxx σ + 4) d x3 x4) := Ag.st (Ag.st (Ag.st (Ag.st (Ag.st (Ag.st (Ag.st (Ag.st Ag.rf (far_in (by omega) (by omega) rfl)) (far_in (by omega) (by omega) rfl)) (far_in (by omega) (by omega) rfl)) (far_in (by omega) (by omega) rfl)) (far_in (by omega) (by omega) rfl)) (far_in (by omega) (by omega) rfl)) rfl) rfl
  have aR2 : Ag [(202, 1000000)] R (rP2 R (nxx σ + 4) (pn G l) (pn G q)) := Ag.st (Ag.st aR (far_in (by omega) (by omega) rfl)) (far_in (by omega) (by omega) rfl)
  have e15 : clP2 I (nxx σ + 4) d x3 x4 4 15 = I 4 15 + 1 := by
    unfold clP2
    simp (disch := omega) only [u2n, u2s]
  have op := out_plant (b := i.toNat) hs hg hm hng kc a2 e15 aR2 f3 (by omega) (by omega) lp lr (fun _ => ⟨hd0, fun w => ⟨by have := g1g w; omega, hd1⟩, fun w => ⟨by have := g2g w; omega, hd2⟩⟩)
  refine tt _ (moPl (clP2 I (nxx σ + 4) d x3 x4) (G 10 0) 2 d l q i.toNat x3 x4, I 4 15) (by rw [cp_hd2 c1 c4 c5 f1]; exact hP) ?_ ⟨rfl, ?_, gr⟩
  · show gX12_plant (shP σ 2) (clP2 I (nxx σ + 4) d x3 x4) _ _ _ _ _ _ _ = _
    have i0 : ∀ f x, gX12_isOf (clP2 I (nxx σ + 4) d x3 x4) x f = gX12_isOf (u2 I (nxx σ + 4) 0 16) x f := fun f x => by
      unfold gX12_isOf clP2
      simp (disch := omega) only [u2n, u2s]
    rw [mp_hd2 c1 c4 c5, mk _ _ (by rw [← f2]; exact full_o (a2 114 1 rfl) (a2 114 0 rfl)) (by rw [a2 115 p.toNat rfl]; exact mp) (by rw [a2 115 r.toNat rfl]; exact mr) (by rw [i0]; exact g1m) (by rw [i0]; exact g2m) (by rw [a2 127 l rfl]; exact n1) (by rw [a2 127 q rfl]; exact n2), if_pos cd]
    have s := shP_125 (z := 2) hS
    rw [mplant_2 (m := G 10 0) (l := l) (q := q) (by rw [a2 114 0 rfl]; exact hm.1.1) (by omega) (by omega) c1 c4 c5 (by rw [a2 115 p.toNat rfl]; exact mp) (by rw [a2 115 r.toNat rfl]; exact mr) (by omega) (by omega) s.1 s.2, a2 114 18 rfl, ← hs.e3]
  · show TOut (shP σ 2) I _ J J R (u2 (rP2 R (nxx σ + 4) (R 6 p.toNat) (R 6 r.toNat)) 6 i.toNat (some (nxx σ + 4)))
    rw [ep, er]
    exact op
theorem c_plant {σ : Shp} {I : Nat → Nat → Int32} {J : Nat → Nat → Int64} {R : Nat → Nat → Option Nat} {x1 x2 x3 x4 x5 x6 : Int32} (hS : Skel σ R) (hn : nxx σ + 3 ≤ 900000) (hs : GScal I) (hT : GThing σ I J R) : Tot (gX11_plant σ I R x1 x2 x3 x4 x5 x6) (fun t => Tot (gX12_plant t.1 t.2.1 t.2.2.1 x1 x2 x3 x4 x5 x6) (fun t2 => t.2.2.2 = t2.2 ∧ TOut t.1 I t2.1 J J R t.2.2.1 ∧ Grow σ t.1)) := by
  obtain ⟨i, hi1, hi2, rfl⟩ := rep x1
  obtain ⟨j, hj1, hj2, rfl⟩ := rep x2
  obtain ⟨p, hp1, hp2, rfl⟩ := rep x5
  obtain ⟨r, hr1, hr2, rfl⟩ := rep x6
  by_cases c1 : 0 ≤ i ∧ i ≤ 15
  case neg =>
    exact tt (σ, I, R, -2) (I, -2) (by unfold gX11_plant; simp (disch := omega) only [fail_r, no_r, nob_r, fI_o, Nat.reduceLeDiff, ↓reduceIte, not_true_eq_false, not_false_eq_true, false_imp_iff, true_imp_iff, and_true, true_and, and_self, implies_true, false_or, or_false, true_or, or_true, d10, d01, d00, d11, g_tn, Tot_some, Tot_none, Tot_ite, Tot_bind, ob_some, onl_n, onl_s, nat32, Int.toNat_natCast, i_add, i_sub, i_mul, i_addl, i_addr, i_subl, i_subr, i_mulr, i_addn, i_gd, i_tn, i_w, i_ltlT, i_ltlF, i_ltrT, i_ltrF, i_lelT, i_lelF, i_lerT, i_lerF, i_eqlT, i_eqlF, i_eqrT, i_eqrF, i_ltnT, i_ltnF, i_lenT, i_lenF, i_eqnT, i_eqnF, i_ltT, i_ltF, i_leT, i_leF, i_eqT, i_eqF, j_ltlT, j_ltlF, j_ltrT, j_ltrF, j_lelT, j_lelF, j_lerT, j_lerF, j_eqlT, j_eqlF, j_ltT, j_ltF, j_leT, j_leF, j_eqT, j_eqF, i_mull, l_tn, l_lt0, l_ne0, nleF, tX11_isStockT, tX11_isStockF, tX11_isBinT, tX11_isBinF, tX11_isPlanT, tX11_isPlanF, tX11_isValveT, tX11_isValveF, tX11_isLaneT, tX11_isLaneF, tX11_isGridFormT, tX11_isGridFormF, tX11_isFormT, tX11_isFormF, tX11_isTrayFormT, tX11_isTrayFormF, tX11_isPlacesFormT, tX11_isPlacesFormF, tX11_isTableT, tX11_isTableF, tX11_isProbeT, tX11_isProbeF, tX11_isHouseT, tX11_isHouseF, tX11_isPestT, tX11_isPestF, tX11_isStageT, tX11_isStageF, tX11_isPartT, tX11_isPartF, tX12_isBinT, tX12_isBinF, tX12_isTableT, tX12_isTableF, tX12_inT, tX12_inF, tX12_innT, tX12_innF, tX12_ingT, tX12_ingF, tX12_isStageT, tX12_isStageF, tX1_isByteT, tX1_isByteF]) (by unfold gX12_plant; simp (disch := omega) only [fail_r, no_r, nob_r, fI_o, Nat.reduceLeDiff, ↓reduceIte, not_true_eq_false, not_false_eq_true, false_imp_iff, true_imp_iff, and_true, true_and, and_self, implies_true, false_or, or_false, true_or, or_true, d10, d01, d00, d11, g_tn, Tot_some, Tot_none, Tot_ite, Tot_bind, ob_some, onl_n, onl_s, nat32, Int.toNat_natCast, i_add, i_sub, i_mul, i_addl, i_addr, i_subl, i_subr, i_mulr, i_addn, i_gd, i_tn, i_w, i_ltlT, i_ltlF, i_ltrT, i_ltrF, i_lelT, i_lelF, i_lerT, i_lerF, i_eqlT, i_eqlF, i_eqrT, i_eqrF, i_ltnT, i_ltnF, i_lenT, i_lenF, i_eqnT, i_eqnF, i_ltT, i_ltF, i_leT, i_leF, i_eqT, i_eqF, j_ltlT, j_ltlF, j_ltrT, j_ltrF, j_lelT, j_lelF, j_lerT, j_lerF, j_eqlT, j_eqlF, j_ltT, j_ltF, j_leT, j_leF, j_eqT, j_eqF, i_mull, l_tn, l_lt0, l_ne0, nleF, tX11_isStockT, tX11_isStockF, tX11_isBinT, tX11_isBinF, tX11_isPlanT, tX11_isPlanF, tX11_isValveT, tX11_isValveF, tX11_isLaneT, tX11_isLaneF, tX11_isGridFormT, tX11_isGridFormF, tX11_isFormT, tX11_isFormF, tX11_isTrayFormT, tX11_isTrayFormF, tX11_isPlacesFormT, tX11_isPlacesFormF, tX11_isTableT, tX11_isTableF, tX11_isProbeT, tX11_isProbeF, tX11_isHouseT, tX11_isHouseF, tX11_isPestT, tX11_isPestF, tX11_isStageT, tX11_isStageF, tX11_isPartT, tX11_isPartF, tX12_isBinT, tX12_isBinF, tX12_isTableT, tX12_isTableF, tX12_inT, tX12_inF, tX12_innT, tX12_innF, tX12_ingT, tX12_ingF, tX12_isStageT, tX12_isStageF, tX1_isByteT, tX1_isByteF]) ⟨rfl, ⟨tout_rf hs hT, Grow.rf⟩⟩
  by_cases c2a : 0 ≤ j
  case neg =>
    exact tt (σ, I, R, -2) (I, -2) (by unfold gX11_plant; simp (disch := omega) only [fail_r, no_r, nob_r, fI_o, Nat.reduceLeDiff, ↓reduceIte, not_true_eq_false, not_false_eq_true, false_imp_iff, true_imp_iff, and_true, true_and, and_self, implies_true, false_or, or_false, true_or, or_true, d10, d01, d00, d11, g_tn, Tot_some, Tot_none, Tot_ite, Tot_bind, ob_some, onl_n, onl_s, nat32, Int.toNat_natCast, i_add, i_sub, i_mul, i_addl, i_addr, i_subl, i_subr, i_mulr, i_addn, i_gd, i_tn, i_w, i_ltlT, i_ltlF, i_ltrT, i_ltrF, i_lelT, i_lelF, i_lerT, i_lerF, i_eqlT, i_eqlF, i_eqrT, i_eqrF, i_ltnT, i_ltnF, i_lenT, i_lenF, i_eqnT, i_eqnF, i_ltT, i_ltF, i_leT, i_leF, i_eqT, i_eqF, j_ltlT, j_ltlF, j_ltrT, j_ltrF, j_lelT, j_lelF, j_lerT, j_lerF, j_eqlT, j_eqlF, j_ltT, j_ltF, j_leT, j_leF, j_eqT, j_eqF, i_mull, l_tn, l_lt0, l_ne0, nleF, tX11_isStockT, tX11_isStockF, tX11_isBinT, tX11_isBinF, tX11_isPlanT, tX11_isPlanF, tX11_isValveT, tX11_isValveF, tX11_isLaneT, tX11_isLaneF, tX11_isGridFormT, tX11_isGridFormF, tX11_isFormT, tX11_isFormF, tX11_isTrayFormT, tX11_isTrayFormF, tX11_isPlacesFormT, tX11_isPlacesFormF, tX11_isTableT, tX11_isTableF, tX11_isProbeT, tX11_isProbeF, tX11_isHouseT, tX11_isHouseF, tX11_isPestT, tX11_isPestF, tX11_isStageT, tX11_isStageF, tX11_isPartT, tX11_isPartF, tX12_isBinT, tX12_isBinF, tX12_isTableT, tX12_isTableF, tX12_inT, tX12_inF, tX12_innT, tX12_innF, tX12_ingT, tX12_ingF, tX12_isStageT, tX12_isStageF, tX1_isByteT, tX1_isByteF]) (by unfold gX12_plant; simp (disch := omega) only [fail_r, no_r, nob_r, fI_o, Nat.reduceLeDiff, ↓reduceIte, not_true_eq_false, not_false_eq_true, false_imp_iff, true_imp_iff, and_true, true_and, and_self, implies_true, false_or, or_false, true_or, or_true, d10, d01, d00, d11, g_tn, Tot_some, Tot_none, Tot_ite, Tot_bind, ob_some, onl_n, onl_s, nat32, Int.toNat_natCast, i_add, i_sub, i_mul, i_addl, i_addr, i_subl, i_subr, i_mulr, i_addn, i_gd, i_tn, i_w, i_ltlT, i_ltlF, i_ltrT, i_ltrF, i_lelT, i_lelF, i_lerT, i_lerF, i_eqlT, i_eqlF, i_eqrT, i_eqrF, i_ltnT, i_ltnF, i_lenT, i_lenF, i_eqnT, i_eqnF, i_ltT, i_ltF, i_leT, i_leF, i_eqT, i_eqF, j_ltlT, j_ltlF, j_ltrT, j_ltrF, j_lelT, j_lelF, j_lerT, j_lerF, j_eqlT, j_eqlF, j_ltT, j_ltF, j_leT, j_leF, j_eqT, j_eqF, i_mull, l_tn, l_lt0, l_ne0, nleF, tX11_isStockT, tX11_isStockF, tX11_isBinT, tX11_isBinF, tX11_isPlanT, tX11_isPlanF, tX11_isValveT, tX11_isValveF, tX11_isLaneT, tX11_isLaneF, tX11_isGridFormT, tX11_isGridFormF, tX11_isFormT, tX11_isFormF, tX11_isTrayFormT, tX11_isTrayFormF, tX11_isPlacesFormT, tX11_isPlacesFormF, tX11_isTableT, tX11_isTableF, tX11_isProbeT, tX11_isProbeF, tX11_isHouseT, tX11_isHouseF, tX11_isPestT, tX11_isPestF, tX11_isStageT, tX11_isStageF, tX11_isPartT, tX11_isPartF, tX12_isBinT, tX12_isBinF, tX12_isTableT, tX12_isTableF, tX12_inT, tX12_inF, tX12_innT, tX12_innF, tX12_ingT, tX12_ingF, tX12_isStageT, tX12_isStageF, tX1_isByteT, tX1_isByteF]) ⟨rfl, ⟨tout_rf hs hT, Grow.rf⟩⟩
  by_cases c2 : j ≤ 5
  case neg =>
    exact tt (σ, I, R, -2) (I, -2) (by unfold gX11_plant; simp (disch := omega) only [fail_r, no_r, nob_r, fI_o, Nat.reduceLeDiff, ↓reduceIte, not_true_eq_false, not_false_eq_true, false_imp_iff, true_imp_iff, and_true, true_and, and_self, implies_true, false_or, or_false, true_or, or_true, d10, d01, d00, d11, g_tn, Tot_some, Tot_none, Tot_ite, Tot_bind, ob_some, onl_n, onl_s, nat32, Int.toNat_natCast, i_add, i_sub, i_mul, i_addl, i_addr, i_subl, i_subr, i_mulr, i_addn, i_gd, i_tn, i_w, i_ltlT, i_ltlF, i_ltrT, i_ltrF, i_lelT, i_lelF, i_lerT, i_lerF, i_eqlT, i_eqlF, i_eqrT, i_eqrF, i_ltnT, i_ltnF, i_lenT, i_lenF, i_eqnT, i_eqnF, i_ltT, i_ltF, i_leT, i_leF, i_eqT, i_eqF, j_ltlT, j_ltlF, j_ltrT, j_ltrF, j_lelT, j_lelF, j_lerT, j_lerF, j_eqlT, j_eqlF, j_ltT, j_ltF, j_leT, j_leF, j_eqT, j_eqF, i_mull, l_tn, l_lt0, l_ne0, nleF, tX11_isStockT, tX11_isStockF, tX11_isBinT, tX11_isBinF, tX11_isPlanT, tX11_isPlanF, tX11_isValveT, tX11_isValveF, tX11_isLaneT, tX11_isLaneF, tX11_isGridFormT, tX11_isGridFormF, tX11_isFormT, tX11_isFormF, tX11_isTrayFormT, tX11_isTrayFormF, tX11_isPlacesFormT, tX11_isPlacesFormF, tX11_isTableT, tX11_isTableF, tX11_isProbeT, tX11_isProbeF, tX11_isHouseT, tX11_isHouseF, tX11_isPestT, tX11_isPestF, tX11_isStageT, tX11_isStageF, tX11_isPartT, tX11_isPartF, tX12_isBinT, tX12_isBinF, tX12_isTableT, tX12_isTableF, tX12_inT, tX12_inF, tX12_innT, tX12_innF, tX12_ingT, tX12_ingF, tX12_isStageT, tX12_isStageF, tX1_isByteT, tX1_isByteF]) (by unfold gX12_plant; simp (disch := omega) only [fail_r, no_r, nob_r, fI_o, Nat.reduceLeDiff, ↓reduceIte, not_true_eq_false, not_false_eq_true, false_imp_iff, true_imp_iff, and_true, true_and, and_self, implies_true, false_or, or_false, true_or, or_true, d10, d01, d00, d11, g_tn, Tot_some, Tot_none, Tot_ite, Tot_bind, ob_some, onl_n, onl_s, nat32, Int.toNat_natCast, i_add, i_sub, i_mul, i_addl, i_addr, i_subl, i_subr, i_mulr, i_addn, i_gd, i_tn, i_w, i_ltlT, i_ltlF, i_ltrT, i_ltrF, i_lelT, i_lelF, i_lerT, i_lerF, i_eqlT, i_eqlF, i_eqrT, i_eqrF, i_ltnT, i_ltnF, i_lenT, i_lenF, i_eqnT, i_eqnF, i_ltT, i_ltF, i_leT, i_leF, i_eqT, i_eqF, j_ltlT, j_ltlF, j_ltrT, j_ltrF, j_lelT, j_lelF, j_lerT, j_lerF, j_eqlT, j_eqlF, j_ltT, j_ltF, j_leT, j_leF, j_eqT, j_eqF, i_mull, l_tn, l_lt0, l_ne0, nleF, tX11_isStockT, tX11_isStockF, tX11_isBinT, tX11_isBinF, tX11_isPlanT, tX11_isPlanF, tX11_isValveT, tX11_isValveF, tX11_isLaneT, tX11_isLaneF, tX11_isGridFormT, tX11_isGridFormF, tX11_isFormT, tX11_isFormF, tX11_isTrayFormT, tX11_isTrayFormF, tX11_isPlacesFormT, tX11_isPlacesFormF, tX11_isTableT, tX11_isTableF, tX11_isProbeT, tX11_isProbeF, tX11_isHouseT, tX11_isHouseF, tX11_isPestT, tX11_isPestF, tX11_isStageT, tX11_isStageF, tX11_isPartT, tX11_isPartF, tX12_isBinT, tX12_isBinF, tX12_isTableT, tX12_isTableF, tX12_inT, tX12_inF, tX12_innT, tX12_innF, tX12_ingT, tX12_ingF, tX12_isStageT, tX12_isStageF, tX1_isByteT, tX1_isByteF]) ⟨rfl, ⟨tout_rf hs hT, Grow.rf⟩⟩
  by_cases c3 : j = 2
  · by_cases c4 : 0 ≤ p ∧ p ≤ 15
    case neg =>
      exact tt (σ, I, R, -2) (I, -2) (by unfold gX11_plant; simp (disch := omega) only [fail_r, no_r, nob_r, fI_o, Nat.reduceLeDiff, ↓reduceIte, not_true_eq_false, not_false_eq_true, false_imp_iff, true_imp_iff, and_true, true_and, and_self, implies_true, false_or, or_false, true_or, or_true, d10, d01, d00, d11, g_tn, Tot_some, Tot_none, Tot_ite, Tot_bind, ob_some, onl_n, onl_s, nat32, Int.toNat_natCast, i_add, i_sub, i_mul, i_addl, i_addr, i_subl, i_subr, i_mulr, i_addn, i_gd, i_tn, i_w, i_ltlT, i_ltlF, i_ltrT, i_ltrF, i_lelT, i_lelF, i_lerT, i_lerF, i_eqlT, i_eqlF, i_eqrT, i_eqrF, i_ltnT, i_ltnF, i_lenT, i_lenF, i_eqnT, i_eqnF, i_ltT, i_ltF, i_leT, i_leF, i_eqT, i_eqF, j_ltlT, j_ltlF, j_ltrT, j_ltrF, j_lelT, j_lelF, j_lerT, j_lerF, j_eqlT, j_eqlF, j_ltT, j_ltF, j_leT, j_leF, j_eqT, j_eqF, i_mull, l_tn, l_lt0, l_ne0, nleF, tX11_isStockT, tX11_isStockF, tX11_isBinT, tX11_isBinF, tX11_isPlanT, tX11_isPlanF, tX11_isValveT, tX11_isValveF, tX11_isLaneT, tX11_isLaneF, tX11_isGridFormT, tX11_isGridFormF, tX11_isFormT, tX11_isFormF, tX11_isTrayFormT, tX11_isTrayFormF, tX11_isPlacesFormT, tX11_isPlacesFormF, tX11_isTableT, tX11_isTableF, tX11_isProbeT, tX11_isProbeF, tX11_isHouseT, tX11_isHouseF, tX11_isPestT, tX11_isPestF, tX11_isStageT, tX11_isStageF, tX11_isPartT, tX11_isPartF, tX12_isBinT, tX12_isBinF, tX12_isTableT, tX12_isTableF, tX12_inT, tX12_inF, tX12_innT, tX12_innF, tX12_ingT, tX12_ingF, tX12_isStageT, tX12_isStageF, tX1_isByteT, tX1_isByteF]) (by unfold gX12_plant; simp (disch := omega) only [fail_r, no_r, nob_r, fI_o, Nat.reduceLeDiff, ↓reduceIte, not_true_eq_false, not_false_eq_true, false_imp_iff, true_imp_iff, and_true, true_and, and_self, implies_true, false_or, or_false, true_or, or_true, d10, d01, d00, d11, g_tn, Tot_some, Tot_none, Tot_ite, Tot_bind, ob_some, onl_n, onl_s, nat32, Int.toNat_natCast, i_add, i_sub, i_mul, i_addl, i_addr, i_subl, i_subr, i_mulr, i_addn, i_gd, i_tn, i_w, i_ltlT, i_ltlF, i_ltrT, i_ltrF, i_lelT, i_lelF, i_lerT, i_lerF, i_eqlT, i_eqlF, i_eqrT, i_eqrF, i_ltnT, i_ltnF, i_lenT, i_lenF, i_eqnT, i_eqnF, i_ltT, i_ltF, i_leT, i_leF, i_eqT, i_eqF, j_ltlT, j_ltlF, j_ltrT, j_ltrF, j_lelT, j_lelF, j_lerT, j_lerF, j_eqlT, j_eqlF, j_ltT, j_ltF, j_leT, j_leF, j_eqT, j_eqF, i_mull, l_tn, l_lt0, l_ne0, nleF, tX11_isStockT, tX11_isStockF, tX11_isBinT, tX11_isBinF, tX11_isPlanT, tX11_isPlanF, tX11_isValveT, tX11_isValveF, tX11_isLaneT, tX11_isLaneF, tX11_isGridFormT, tX11_isGridFormF, tX11_isFormT, tX11_isFormF, tX11_isTrayFormT, tX11_isTrayFormF, tX11_isPlacesFormT, tX11_isPlacesFormF, tX11_isTableT, tX11_isTableF, tX11_isProbeT, tX11_isProbeF, tX11_isHouseT, tX11_isHouseF, tX11_isPestT, tX11_isPestF, tX11_isStageT, tX11_isStageF, tX11_isPartT, tX11_isPartF, tX12_isBinT, tX12_isBinF, tX12_isTableT, tX12_isTableF, tX12_inT, tX12_inF, tX12_innT, tX12_innF, tX12_ingT, tX12_ingF, tX12_isStageT, tX12_isStageF, tX1_isByteT, tX1_isByteF]) ⟨rfl, ⟨tout_rf hs hT, Grow.rf⟩⟩
    by_cases c5 : 0 ≤ r ∧ r ≤ 15
    case neg =>
      exact tt (σ, I, R, -2) (I, -2) (by unfold gX11_plant; simp (disch := omega) only [fail_r, no_r, nob_r, fI_o, Nat.reduceLeDiff, ↓reduceIte, not_true_eq_false, not_false_eq_true, false_imp_iff, true_imp_iff, and_true, true_and, and_self, implies_true, false_or, or_false, true_or, or_true, d10, d01, d00, d11, g_tn, Tot_some, Tot_none, Tot_ite, Tot_bind, ob_some, onl_n, onl_s, nat32, Int.toNat_natCast, i_add, i_sub, i_mul, i_addl, i_addr, i_subl, i_subr, i_mulr, i_addn, i_gd, i_tn, i_w, i_ltlT, i_ltlF, i_ltrT, i_ltrF, i_lelT, i_lelF, i_lerT, i_lerF, i_eqlT, i_eqlF, i_eqrT, i_eqrF, i_ltnT, i_ltnF, i_lenT, i_lenF, i_eqnT, i_eqnF, i_ltT, i_ltF, i_leT, i_leF, i_eqT, i_eqF, j_ltlT, j_ltlF, j_ltrT, j_ltrF, j_lelT, j_lelF, j_lerT, j_lerF, j_eqlT, j_eqlF, j_ltT, j_ltF, j_leT, j_leF, j_eqT, j_eqF, i_mull, l_tn, l_lt0, l_ne0, nleF, tX11_isStockT, tX11_isStockF, tX11_isBinT, tX11_isBinF, tX11_isPlanT, tX11_isPlanF, tX11_isValveT, tX11_isValveF, tX11_isLaneT, tX11_isLaneF, tX11_isGridFormT, tX11_isGridFormF, tX11_isFormT, tX11_isFormF, tX11_isTrayFormT, tX11_isTrayFormF, tX11_isPlacesFormT, tX11_isPlacesFormF, tX11_isTableT, tX11_isTableF, tX11_isProbeT, tX11_isProbeF, tX11_isHouseT, tX11_isHouseF, tX11_isPestT, tX11_isPestF, tX11_isStageT, tX11_isStageF, tX11_isPartT, tX11_isPartF, tX12_isBinT, tX12_isBinF, tX12_isTableT, tX12_isTableF, tX12_inT, tX12_inF, tX12_innT, tX12_innF, tX12_ingT, tX12_ingF, tX12_isStageT, tX12_isStageF, tX1_isByteT, tX1_isByteF]) (by unfold gX12_plant; simp (disch := omega) only [fail_r, no_r, nob_r, fI_o, Nat.reduceLeDiff, ↓reduceIte, not_true_eq_false, not_false_eq_true, false_imp_iff, true_imp_iff, and_true, true_and, and_self, implies_true, false_or, or_false, true_or, or_true, d10, d01, d00, d11, g_tn, Tot_some, Tot_none, Tot_ite, Tot_bind, ob_some, onl_n, onl_s, nat32, Int.toNat_natCast, i_add, i_sub, i_mul, i_addl, i_addr, i_subl, i_subr, i_mulr, i_addn, i_gd, i_tn, i_w, i_ltlT, i_ltlF, i_ltrT, i_ltrF, i_lelT, i_lelF, i_lerT, i_lerF, i_eqlT, i_eqlF, i_eqrT, i_eqrF, i_ltnT, i_ltnF, i_lenT, i_lenF, i_eqnT, i_eqnF, i_ltT, i_ltF, i_leT, i_leF, i_eqT, i_eqF, j_ltlT, j_ltlF, j_ltrT, j_ltrF, j_lelT, j_lelF, j_lerT, j_lerF, j_eqlT, j_eqlF, j_ltT, j_ltF, j_leT, j_leF, j_eqT, j_eqF, i_mull, l_tn, l_lt0, l_ne0, nleF, tX11_isStockT, tX11_isStockF, tX11_isBinT, tX11_isBinF, tX11_isPlanT, tX11_isPlanF, tX11_isValveT, tX11_isValveF, tX11_isLaneT, tX11_isLaneF, tX11_isGridFormT, tX11_isGridFormF, tX11_isFormT, tX11_isFormF, tX11_isTrayFormT, tX11_isTrayFormF, tX11_isPlacesFormT, tX11_isPlacesFormF, tX11_isTableT, tX11_isTableF, tX11_isProbeT, tX11_isProbeF, tX11_isHouseT, tX11_isHouseF, tX11_isPestT, tX11_isPestF, tX11_isStageT, tX11_isStageF, tX11_isPartT, tX11_isPartF, tX12_isBinT, tX12_isBinF, tX12_isTableT, tX12_isTableF, tX12_inT, tX12_inF, tX12_innT, tX12_innF, tX12_ingT, tX12_ingF, tX12_isStageT, tX12_isStageF, tX1_isByteT, tX1_isByteF]) ⟨rfl, ⟨tout_rf hs hT, Grow.rf⟩⟩
    subst c3
    exact c_plant2 hS hn hs hT c1 c4 c5
  · obtain ⟨G, C, N, hg, hc, hm⟩ := id hT
    have hn' : nxx σ ≤ 900000 := by omega
    have h198 := hS.1
    have h40 := hg.1.1
    rcases full_eq hs hm.1.1 h40 with ⟨f1, f2⟩ | ⟨f1, f2, f3⟩
    · exact tt (σ, I, R, -4) (I, -4) (by unfold gX11_plant; simp (disch := omega) only [fail_r, no_r, nob_r, fI_o, Nat.reduceLeDiff, ↓reduceIte, not_true_eq_false, not_false_eq_true, false_imp_iff, true_imp_iff, and_true, true_and, and_self, implies_true, false_or, or_false, true_or, or_true, d10, d01, d00, d11, g_tn, Tot_some, Tot_none, Tot_ite, Tot_bind, ob_some, onl_n, onl_s, nat32, Int.toNat_natCast, i_add, i_sub, i_mul, i_addl, i_addr, i_subl, i_subr, i_mulr, i_addn, i_gd, i_tn, i_w, i_ltlT, i_ltlF, i_ltrT, i_ltrF, i_lelT, i_lelF, i_lerT, i_lerF, i_eqlT, i_eqlF, i_eqrT, i_eqrF, i_ltnT, i_ltnF, i_lenT, i_lenF, i_eqnT, i_eqnF, i_ltT, i_ltF, i_leT, i_leF, i_eqT, i_eqF, j_ltlT, j_ltlF, j_ltrT, j_ltrF, j_lelT, j_lelF, j_lerT, j_lerF, j_eqlT, j_eqlF, j_ltT, j_ltF, j_leT, j_leF, j_eqT, j_eqF, i_mull, l_tn, l_lt0, l_ne0, nleF, tX11_isStockT, tX11_isStockF, tX11_isBinT, tX11_isBinF, tX11_isPlanT, tX11_isPlanF, tX11_isValveT, tX11_isValveF, tX11_isLaneT, tX11_isLaneF, tX11_isGridFormT, tX11_isGridFormF, tX11_isFormT, tX11_isFormF, tX11_isTrayFormT, tX11_isTrayFormF, tX11_isPlacesFormT, tX11_isPlacesFormF, tX11_isTableT, tX11_isTableF, tX11_isProbeT, tX11_isProbeF, tX11_isHouseT, tX11_isHouseF, tX11_isPestT, tX11_isPestF, tX11_isStageT, tX11_isStageF, tX11_isPartT, tX11_isPartF, tX12_isBinT, tX12_isBinF, tX12_isTableT, tX12_isTableF, tX12_inT, tX12_inF, tX12_innT, tX12_innF, tX12_ingT, tX12_ingF, tX12_isStageT, tX12_isStageF, tX1_isByteT, tX1_isByteF, f1, f2]) (by unfold gX12_plant gX12_plant_b40; simp (disch := omega) only [fail_r, no_r, nob_r, fI_o, Nat.reduceLeDiff, ↓reduceIte, not_true_eq_false, not_false_eq_true, false_imp_iff, true_imp_iff, and_true, true_and, and_self, implies_true, false_or, or_false, true_or, or_true, d10, d01, d00, d11, g_tn, Tot_some, Tot_none, Tot_ite, Tot_bind, ob_some, onl_n, onl_s, nat32, Int.toNat_natCast, i_add, i_sub, i_mul, i_addl, i_addr, i_subl, i_subr, i_mulr, i_addn, i_gd, i_tn, i_w, i_ltlT, i_ltlF, i_ltrT, i_ltrF, i_lelT, i_lelF, i_lerT, i_lerF, i_eqlT, i_eqlF, i_eqrT, i_eqrF, i_ltnT, i_ltnF, i_lenT, i_lenF, i_eqnT, i_eqnF, i_ltT, i_ltF, i_leT, i_leF, i_eqT, i_eqF, j_ltlT, j_ltlF, j_ltrT, j_ltrF, j_lelT, j_lelF, j_lerT, j_lerF, j_eqlT, j_eqlF, j_ltT, j_ltF, j_leT, j_leF, j_eqT, j_eqF, i_mull, l_tn, l_lt0, l_ne0, nleF, tX11_isStockT, tX11_isStockF, tX11_isBinT, tX11_isBinF, tX11_isPlanT, tX11_isPlanF, tX11_isValveT, tX11_isValveF, tX11_isLaneT, tX11_isLaneF, tX11_isGridFormT, tX11_isGridFormF, tX11_isFormT, tX11_isFormF, tX11_isTrayFormT, tX11_isTrayFormF, tX11_isPlacesFormT, tX11_isPlacesFormF, tX11_isTableT, tX11_isTableF, tX11_isProbeT, tX11_isProbeF, tX11_isHouseT, tX11_isHouseF, tX11_isPestT, tX11_isPestF, tX11_isStageT, tX11_isStageF, tX11_isPartT, tX11_isPartF, tX12_isBinT, tX12_isBinF, tX12_isTableT, tX12_isTableF, tX12_inT, tX12_inF, tX12_innT, tX12_innF, tX12_ingT, tX12_ingF, tX12_isStageT, tX12_isStageF, tX1_isByteT, tX1_isByteF, f1, f2]) ⟨rfl, ⟨tout_rf hs hT, Grow.rf⟩⟩
    obtain ⟨k, rfl⟩ : ∃ k : Nat, j = (k : Int) := ⟨j.toNat, by omega⟩
    have kc := cl_plant0 (k := k) (x3 := x3) (x4 := x4) hS hn hg hc (by omega)
    have n1 := cplant_0 (σ := σ) (R := R) (I := I) (k := k) (x3 := x3) (x4 := x4) (x5 := Int32.ofInt p) (x6 := Int32.ofInt r) h198 (by omega) c1
    have a2 : Ag [(202, 1000000), (2000012, 2000013), (2000015, 2000016)] I (clP I (nxx σ + 4) (Int32.ofInt k) x3 x4) := Ag.st (Ag.st (Ag.st (Ag.st (Ag.st (Ag.st (Ag.st Ag.rf (far_in (by omega) (by omega) rfl)) (far_in (by omega) (by omega) rfl)) (far_in (by omega) (by omega) rfl)) (far_in (by omega) (by omega) rfl)) (far_in (by omega) (by omega) rfl)) rfl) rfl
    have aR2 : Ag [(202, 1000000)] R (u2 (u2 R (nxx σ + 4) 1 (some 0)) (nxx σ + 4) 2 (some (nxx σ + 4 + 1))) := Ag.st (Ag.st Ag.rf (far_in (by omega) (by omega) rfl)) (far_in (by omega) (by omega) rfl)
    have e15 : clP I (nxx σ + 4) (Int32.ofInt k) x3 x4 4 15 = I 4 15 + 1 := by
      unfold clP
      simp (disch := omega) only [u2n, u2s]
    have op := out_plant (b := i.toNat) hs hg hm (by rw [shP_n]; omega) kc a2 e15 aR2 f3 (by omega) (by omega) (by omega) (by omega) (fun w => by omega)
    have s := shP_125 (z := 0) hS
    have n2 : gX12_isFull (clP I (nxx σ + 4) (Int32.ofInt k) x3 x4) = some 0 := by rw [← f2]; exact full_o (a2 114 1 rfl) (a2 114 0 rfl)
    have n3 := mplant_0 (σ := shP σ 0) (R := u2 (u2 (u2 R (nxx σ + 4) 1 (some 0)) (nxx σ + 4) 2 (some (nxx σ + 4 + 1))) 6 i.toNat (some (nxx σ + 4))) (I := clP I (nxx σ + 4) (Int32.ofInt k) x3 x4) (m := G 10 0) (k := k) (i := i) (x3 := x3) (x4 := x4) (x5 := Int32.ofInt p) (x6 := Int32.ofInt r) (by rw [a2 114 0 rfl]; exact hm.1.1) (by omega) (by omega) c1 s.1 s.2
    rw [a2 114 18 rfl, ← hs.e3] at n3
    have e0 : Int32.ofInt 0 = 0 := rfl
    rw [e0] at n3
    have gr : Grow σ (shP σ 0) := ⟨by rw [shP_n]; omega, by rw [shP_n]; omega, by rw [shP_s]; omega⟩
    exact tt (shP σ 0, clP I (nxx σ + 4) (Int32.ofInt k) x3 x4, u2 (u2 (u2 R (nxx σ + 4) 1 (some 0)) (nxx σ + 4) 2 (some (nxx σ + 4 + 1))) 6 i.toNat (some (nxx σ + 4)), I 4 15) (moPl (clP I (nxx σ + 4) (Int32.ofInt k) x3 x4) (G 10 0) k 0 0 0 i.toNat x3 x4, I 4 15) (by unfold gX11_plant; simp (disch := omega) only [fail_r, no_r, nob_r, fI_o, Nat.reduceLeDiff, ↓reduceIte, not_true_eq_false, not_false_eq_true, false_imp_iff, true_imp_iff, and_true, true_and, and_self, implies_true, false_or, or_false, true_or, or_true, d10, d01, d00, d11, g_tn, Tot_some, Tot_none, Tot_ite, Tot_bind, ob_some, onl_n, onl_s, nat32, Int.toNat_natCast, i_add, i_sub, i_mul, i_addl, i_addr, i_subl, i_subr, i_mulr, i_addn, i_gd, i_tn, i_w, i_ltlT, i_ltlF, i_ltrT, i_ltrF, i_lelT, i_lelF, i_lerT, i_lerF, i_eqlT, i_eqlF, i_eqrT, i_eqrF, i_ltnT, i_ltnF, i_lenT, i_lenF, i_eqnT, i_eqnF, i_ltT, i_ltF, i_leT, i_leF, i_eqT, i_eqF, j_ltlT, j_ltlF, j_ltrT, j_ltrF, j_lelT, j_lelF, j_lerT, j_lerF, j_eqlT, j_eqlF, j_ltT, j_ltF, j_leT, j_leF, j_eqT, j_eqF, i_mull, l_tn, l_lt0, l_ne0, nleF, tX11_isStockT, tX11_isStockF, tX11_isBinT, tX11_isBinF, tX11_isPlanT, tX11_isPlanF, tX11_isValveT, tX11_isValveF, tX11_isLaneT, tX11_isLaneF, tX11_isGridFormT, tX11_isGridFormF, tX11_isFormT, tX11_isFormF, tX11_isTrayFormT, tX11_isTrayFormF, tX11_isPlacesFormT, tX11_isPlacesFormF, tX11_isTableT, tX11_isTableF, tX11_isProbeT, tX11_isProbeF, tX11_isHouseT, tX11_isHouseF, tX11_isPestT, tX11_isPestF, tX11_isStageT, tX11_isStageF, tX11_isPartT, tX11_isPartF, tX12_isBinT, tX12_isBinF, tX12_isTableT, tX12_isTableF, tX12_inT, tX12_inF, tX12_innT, tX12_innF, tX12_ingT, tX12_ingF, tX12_isStageT, tX12_isStageF, tX1_isByteT, tX1_isByteF, f1, n1, n2, n3]) (by unfold gX12_plant gX12_plant_b40; simp (disch := omega) only [fail_r, no_r, nob_r, fI_o, Nat.reduceLeDiff, ↓reduceIte, not_true_eq_false, not_false_eq_true, false_imp_iff, true_imp_iff, and_true, true_and, and_self, implies_true, false_or, or_false, true_or, or_true, d10, d01, d00, d11, g_tn, Tot_some, Tot_none, Tot_ite, Tot_bind, ob_some, onl_n, onl_s, nat32, Int.toNat_natCast, i_add, i_sub, i_mul, i_addl, i_addr, i_subl, i_subr, i_mulr, i_addn, i_gd, i_tn, i_w, i_ltlT, i_ltlF, i_ltrT, i_ltrF, i_lelT, i_lelF, i_lerT, i_lerF, i_eqlT, i_eqlF, i_eqrT, i_eqrF, i_ltnT, i_ltnF, i_lenT, i_lenF, i_eqnT, i_eqnF, i_ltT, i_ltF, i_leT, i_leF, i_eqT, i_eqF, j_ltlT, j_ltlF, j_ltrT, j_ltrF, j_lelT, j_lelF, j_lerT, j_lerF, j_eqlT, j_eqlF, j_ltT, j_ltF, j_leT, j_leF, j_eqT, j_eqF, i_mull, l_tn, l_lt0, l_ne0, nleF, tX11_isStockT, tX11_isStockF, tX11_isBinT, tX11_isBinF, tX11_isPlanT, tX11_isPlanF, tX11_isValveT, tX11_isValveF, tX11_isLaneT, tX11_isLaneF, tX11_isGridFormT, tX11_isGridFormF, tX11_isFormT, tX11_isFormF, tX11_isTrayFormT, tX11_isTrayFormF, tX11_isPlacesFormT, tX11_isPlacesFormF, tX11_isTableT, tX11_isTableF, tX11_isProbeT, tX11_isProbeF, tX11_isHouseT, tX11_isHouseF, tX11_isPestT, tX11_isPestF, tX11_isStageT, tX11_isStageF, tX11_isPartT, tX11_isPartF, tX12_isBinT, tX12_isBinF, tX12_isTableT, tX12_isTableF, tX12_inT, tX12_inF, tX12_innT, tX12_innF, tX12_ingT, tX12_ingF, tX12_isStageT, tX12_isStageF, tX1_isByteT, tX1_isByteF, f1, n1, n2, n3]) ⟨rfl, ⟨op, gr⟩⟩
