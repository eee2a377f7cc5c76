/-! ===== minute: the whole call ===== -/
def WMi : List (Nat × Nat) := [(26, 28), (38, 42), (43, 52), (160, 165), (167, 173), (177, 180), (1000083, 1000084), (1000085, 1000086)]
def WMj : List (Nat × Nat) := [(54, 57), (58, 61), (166, 167), (173, 174), (175, 177), (180, 181)]
theorem WMi_o {a k : Nat} (h : inW WMi (key a k) = false) : (a ≠ 26 ∧ a ≠ 27 ∧ ¬ (38 ≤ a ∧ a ≤ 41) ∧ ¬ (43 ≤ a ∧ a ≤ 51)) ∧ ¬ (160 ≤ a ∧ a ≤ 164) ∧ ¬ (a = 114 ∧ k = 83) ∧ ¬ (a = 114 ∧ k = 85) ∧ ¬ (167 ≤ a ∧ a ≤ 172) ∧ ¬ (177 ≤ a ∧ a ≤ 179) ∧ a ≠ 1000083 := by
  have h1 := nIn (lo := 26) (hi := 28) h (by decide) (by omega)
  have h2 := nIn (lo := 38) (hi := 42) h (by decide) (by omega)
  have h3 := nIn (lo := 43) (hi := 52) h (by decide) (by omega)
  have h4 := nIn (lo := 160) (hi := 165) h (by decide) (by omega)
  have h5 := nIn (lo := 167) (hi := 173) h (by decide) (by omega)
  have h6 := nIn (lo := 177) (hi := 180) h (by decide) (by omega)
  have h7 := nIn (lo := 1000083) (hi := 1000084) h (by decide) (by omega)
  refine ⟨by omega, by omega, ?_, ?_, by omega, by omega, by omega⟩
  · rintro ⟨rfl, rfl⟩; exact absurd h (by decide)
  · rintro ⟨rfl, rfl⟩; exact absurd h (by decide)
theorem c_minute {σ : Shp} {R : Nat → Nat → Option Nat} {I : Nat → Nat → Int32} {J : Nat → Nat → Int64} {D : Nat → Nat → UInt64} {x1 : Int32} (hS : Skel σ R) (h : GHouse I J D) (g : GTab I) (o : GOff I) (pt : GPart D) (s : GSame I) : Tot (gX11_minute σ I J D R x1) (fun t => Tot (gX12_minute σ t.1 t.2.1 D R x1) (fun t2 => t.2.2 = t2.2.2 ∧ GHouse t2.1 t2.2.1 D ∧ GTab t2.1 ∧ GOff t2.1 ∧ GSame t2.1 ∧ Ag WMi I t2.1 ∧ Ag WMj J t2.2.1)) := by
  obtain ⟨F, hF⟩ : ∃ F, FUx = F := ⟨_, rfl⟩
  have hF' : F = 2000000 := by rw [← hF, FUx_eq]
  have z : (0 : Int32) = Int32.ofInt ((0 : Nat) : Int) := rfl
  obtain ⟨i, hi1, hi2, rfl⟩ := rep x1
  obtain ⟨m, hm, lq⟩ := lq_of h g o s
  have em : I 26 13 = Int32.ofInt (m : Int) := lq.2.2.2.2.2.2.2.2.1
  have em' : I 114 85 = Int32.ofInt (m : Int) := lq.2.2.2.2.2.2.2.2.2.1
  by_cases c1 : 1 ≤ i
  case neg =>
    refine tt (I, J, -2) (I, J, -2) ?_ ?_ ⟨rfl, h, g, o, s, Ag.rf, Ag.rf⟩
    · unfold gX11_minute
      rw [if_pos (by rw [i_ltl (by omega)]; omega)]
    · unfold gX12_minute
      rw [tX12_inF (by omega), if_pos rfl]
  by_cases c2 : i ≤ 100
  case neg =>
    refine tt (I, J, -2) (I, J, -2) ?_ ?_ ⟨rfl, h, g, o, s, Ag.rf, Ag.rf⟩
    · unfold gX11_minute
      rw [if_neg (by rw [i_ltl (by omega)]; omega), if_neg (by rw [i_lel (by omega)]; omega)]
    · unfold gX12_minute
      rw [tX12_inF (by omega), if_pos rfl]
  obtain ⟨n, rfl⟩ : ∃ n : Nat, i = (n : Int) := ⟨i.toNat, by omega⟩
  by_cases c3 : m + n ≤ 100000
  case neg =>
    refine tt (I, J, -4) (I, J, -4) ?_ ?_ ⟨rfl, h, g, o, s, Ag.rf, Ag.rf⟩
    · unfold gX11_minute
      rw [if_neg (by rw [i_ltl (by omega)]; omega), if_pos (by rw [i_lel (by omega)]; omega), em, i_add, if_neg (by rw [i_lel (by omega)]; omega)]
    · show gX12_minute σ I J D R _ = _
      unfold gX12_minute
      rw [tX12_inT (by omega), if_neg n10, em', i_add, if_neg (by rw [i_lel (by omega)]; omega)]
  have nP := h.e13
  obtain ⟨K, L, K1, L1, a1, -, -, a4⟩ := LQ_run hS h.e12 nP pt n 0 m F I J I J (by omega) c3 (by omega) lq
  have lq2 : LQ D m I J K L := lq.cg (fun _ _ _ => rfl) (fun a k q => a4.1 a k (by omega) (by omega) (by omega) (by omega)) (fun _ _ _ _ => rfl) (fun a k _ _ => a4.2.1 a k (by omega) (by omega))
  obtain ⟨K2, L2, K', L', b1, b2, b3, b4⟩ := LQ_run hS h.e12 nP pt n 0 m F I J K L (by omega) c3 (by omega) lq2
  rw [a1] at b1
  obtain ⟨rfl, rfl⟩ : K = K2 ∧ L = L2 := by
    injection b1 with b1
    injection b1 with b1 b1'
    injection b1' with b1' _
    exact ⟨b1, b1'⟩
  rw [Nat.add_zero, ← z] at a1 b2
  have lq3 : LQ D (m + n) K' L' K' L' := b3.cg (fun a k q => b4.2.2.1 a k (by omega) (by omega) (by omega) (by omega) (by omega) (by omega)) (fun _ _ _ => rfl) (fun a k _ _ => b4.2.2.2 a k (by omega) (by omega) (by omega) (by omega)) (fun _ _ _ _ => rfl)
  have fi : ∀ a k, inW WMi (key a k) = false → K' a k = I a k := fun a k q => by
    obtain ⟨⟨p1, p2, p3, p4⟩, p5, p6, p7, p8, p9, p10⟩ := WMi_o q
    rw [b4.2.2.1 a k p5 p6 p7 p8 p9 p10, a4.1 a k p2 p3 p4 (by omega)]
  have fj : Ag WMj J L' := fun a k q => by
    have h1 := nIn (lo := 54) (hi := 57) q (by decide) (by omega)
    have h2 := nIn (lo := 58) (hi := 61) q (by decide) (by omega)
    have h3 := nIn (lo := 166) (hi := 167) q (by decide) (by omega)
    have h4 := nIn (lo := 173) (hi := 174) q (by decide) (by omega)
    have h5 := nIn (lo := 175) (hi := 177) q (by decide) (by omega)
    have h6 := nIn (lo := 180) (hi := 181) q (by decide) (by omega)
    rw [b4.2.2.2 a k (by omega) (by omega) (by omega) (by omega), a4.2.1 a k (by omega) (by omega)]
  obtain ⟨gh, gs⟩ := lq_to h c3 lq3 (fun a k q => by rw [b4.2.2.1 a k (by omega) (by omega) (by omega) (by omega) (by omega) (by omega), a4.1 a k (by omega) (by omega) (by omega) (by omega)])
  -- the tables
  have gt : GTab K' ∧ GOff K' := by
    have g0 : GTab (fun a k => if inW [(27, 28), (38, 42), (160, 165), (1000083, 1000084)] (key a k) = true then I a k else K' a k) := by
      refine g.kp fun a k q => ?_
      show (if inW [(27, 28), (38, 42), (160, 165), (1000083, 1000084)] (key a k) = true then I a k else K' a k) = I a k
      by_cases c : inW [(27, 28), (38, 42), (160, 165), (1000083, 1000084)] (key a k) = true
      · rw [if_pos c]
      · rw [if_neg c]
        refine fi a k ?_
        have d1 : inW [(26, 27), (43, 52), (167, 173), (177, 180), (1000085, 1000086)] (key a k) = false := disW_no (C := KGTab) (by decide) q
        cases e : inW WMi (key a k) with
        | false => rfl
        | true =>
          exfalso
          obtain ⟨t, t1, t2⟩ := inW_iff.mp e
          have m1 : ∀ w, w ∈ [(26, 27), (43, 52), (167, 173), (177, 180), (1000085, 1000086)] → w.1 ≤ key a k ∧ key a k < w.2 → False := fun w w1 w2 => by
            have := inW_iff.mpr ⟨w, w1, w2⟩
            rw [d1] at this
            exact absurd this (by decide)
          have m2 : ∀ w, w ∈ [(27, 28), (38, 42), (160, 165), (1000083, 1000084)] → w.1 ≤ key a k ∧ key a k < w.2 → False := fun w w1 w2 => c (inW_iff.mpr ⟨w, w1, w2⟩)
          unfold WMi at t1
          simp only [List.mem_cons, List.not_mem_nil, or_false] at t1
          rcases t1 with rfl | rfl | rfl | rfl | rfl | rfl | rfl | rfl
          · by_cases v : key a k < 27
            · exact m1 (26, 27) (by decide) ⟨t2.1, v⟩
            · exact m2 (27, 28) (by decide) ⟨by show 27 ≤ key a k; omega, t2.2⟩
          · exact m2 _ (by decide) t2
          · exact m1 _ (by decide) t2
          · exact m2 _ (by decide) t2
          · exact m1 _ (by decide) t2
          · exact m1 _ (by decide) t2
          · exact m2 _ (by decide) t2
          · exact m1 _ (by decide) t2
    obtain ⟨r, T, n, X, Y, hr, hI, hZ, h01, hC, hM, -⟩ := lq3.2.2.2.2.2.2.2.1
    exact tab_b g0 hr hI hZ h01 hC hM (fun a k q => by show K' a k = (if inW [(27, 28), (38, 42), (160, 165), (1000083, 1000084)] (key a k) = true then I a k else K' a k); rw [q]; rfl)
  refine tt (K, L, Int32.ofInt ((m + n : Nat) : Int)) (K', L', Int32.ofInt ((m + n : Nat) : Int)) ?_ ?_ ⟨rfl, gh, gt.1, gt.2, gs, fi, fj⟩
  · unfold gX11_minute
    rw [if_neg (by rw [i_ltl (by omega)]; omega), if_pos (by rw [i_lel (by omega)]; omega), em, i_add, if_pos (by rw [i_lel (by omega)]; omega), hF]
    exact a1
  · show gX12_minute σ K L D R _ = _
    have ek : K 114 85 = Int32.ofInt (m : Int) := lq2.2.2.2.2.2.2.2.2.2.1
    unfold gX12_minute
    rw [tX12_inT (by omega), if_neg n10, ek, i_add, if_pos (by rw [i_lel (by omega)]; omega), hF]
    exact b2
