/-! ===== plant: the class's part, grafts ===== -/
theorem cl_plant2 {G : Nat → Nat → Nat} {C : Nat → Int64} {N : Nat → Nat → Int32} {σ : Shp} {I : Nat → Nat → Int32} {J : Nat → Nat → Int64} {R : Nat → Nat → Option Nat} {d l q : Nat} {x3 x4 : Int32} (hS : Skel σ R) (hn : nxx σ + 3 ≤ 900000) (hg : TSg G C N) (hc : TCl G C N σ I J R) (hl : l ≤ G 10 0) (hq : q ≤ G 10 0) : TCl (gNew G (nxx σ + 4) 16 0 2 d l q) C (u2 (u2 (u2 N 4 (G 10 0 + 1) (I 4 15)) 5 (G 10 0 + 1) x3) 6 (G 10 0 + 1) x4) (shP σ 2) (clP2 I (nxx σ + 4) d x3 x4) J (rP2 R (nxx σ + 4) (pn G l) (pn G q)) := by
  have eC : cC 16 (nxx σ + 4) = 0 := rfl
  have eP : cP 16 (nxx σ + 4) = nxx σ + 4 + 1 := rfl
  have eW : cW 16 = 2 := rfl
  have en : nC 16 0 = 0 := rfl
  have ep : nP 16 0 2 = 2 := rfl
  have h198 := hS.1
  have fr := hc.2.2.2.2
  have fa := fr (nxx σ + 4) (by omega) (by omega)
  have zN := hg.2.2.2.2.1 (G 10 0 + 1) (Or.inr (by omega))
  have k0 : kdx σ 0 = 21 := hS.k 0 21 (by decide) rfl
  have l0 : lnx σ 0 = 0 := hS.l 0 0 (by decide) rfl
  unfold clP2 rP2
  refine TCl.new hg hc (fun x t ht => by rw [u2n (by omega), u2n (by omega), u2n (by omega)]) ⟨h198, ?_⟩ ?_ (fun b hb => ?_) ?_ ?_ ?_ (fun b hb1 hb2 => ?_) ?_ (fun b h1 h2 h3 => ?_) ?_ ?_ (fun b h1 h2 h3 h4 => ?_) ?_ (fun r => ?_) (fun r1 r2 => by omega) hl hq
  · rw [shP_n]; omega
  · rw [shP_n, eW]
  · rw [shP_k, shP_l, if_neg (by omega), if_neg (by omega), if_neg (by omega)]
    exact ⟨rfl, rfl⟩
  · rw [shP_k, if_neg (by omega), if_pos rfl]
  · rw [eC, en, shP_k, shP_l, if_neg (by omega), if_neg (by omega), if_neg (by omega)]
    exact ⟨k0, l0⟩
  · rw [eP, ep, shP_k, shP_l, if_pos (by omega), if_pos (by omega)]
    exact ⟨rfl, rfl⟩
  · rw [shP_n] at hb1
    rw [shP_k, if_neg (by omega), if_neg (by omega)]
    exact (fr b (by omega) hb2).1
  · simp (disch := omega) only [u2n, u2s]; rw [hc.1, i_addl]; rfl
  · funext j
    simp (disch := omega) only [u2n, u2s]
  · obtain ⟨z5, z6, z7, z8, z4, zb, zc, zd⟩ := zN
    have zd := zd (by omega)
    refine ⟨?_, ?_, ?_, ?_, ?_, ?_, ?_⟩
    · simp (disch := omega) only [u2n, u2s]; rfl
    · simp (disch := omega) only [u2n, u2s]; rfl
    · simp (disch := omega) only [u2n, u2s]
    · simp (disch := omega) only [u2n, u2s]
    · simp (disch := omega) only [u2n, u2s]
    · simp (disch := omega) only [u2n, u2s]
    · simp (disch := omega) only [u2n, u2s]; rw [zd]; exact (fa.2 8).1
  · funext j
    simp (disch := omega) only [u2n, u2s]
  · rw [eP] at h4
    funext j
    simp (disch := omega) only [u2n, u2s]
  · rw [eC, eP]
    refine ⟨?_, ?_⟩
    · simp (disch := omega) only [u2n, u2s]
    · simp (disch := omega) only [u2n, u2s]
  · rw [eP]
    refine ⟨?_, ?_⟩
    · simp (disch := omega) only [u2n, u2s]
    · simp (disch := omega) only [u2n, u2s]
